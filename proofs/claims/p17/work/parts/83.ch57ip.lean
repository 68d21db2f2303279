/-! fx: serving, nights, taking off keep all alike -/
theorem cRem_fs {g g' : Nat → Nat → Int} (hx : fFS g g') {i c j : Nat} (h1 : c ≠ 14) (h2 : c ≠ 15) : cRem g' i c j = cRem g i c j := by
  unfold cRem cpT
  simp only [fu_app, fcy_app, hx 0 _ (by decide) (by decide), hx 16 _ (by decide) (by decide), hx (16 + 1) _ (by decide) (by decide), hx (16 + 2) _ (by decide) (by decide), hx (16 + 3) _ (by decide) (by decide), hx (16 + 4) _ (by decide) (by decide), hx (16 + 5) _ (by decide) (by decide), hx c j h1 h2]
theorem mRem_rA {G G2 : Nat → Nat → Int} (h : rA G G2) : rN (mRem G) (mRem (fu G2 148 0 (G 148 0))) := fun c j a b d => by
  have e : ∀ c j, c ≠ 154 → ¬ (c = 148 ∧ (j = 9 ∨ j = 10 ∨ j = 11 ∨ j = 13 ∨ (15 ≤ j ∧ j ≤ 19))) → fu G2 148 0 (G 148 0) c j = G c j := fun c j h1 h2 => by
    by_cases t : c = 148 ∧ j = 0
    · obtain ⟨rfl, rfl⟩ := t
      rw [fu_eq]
    · rw [fu_ne t]
      exact h c j h1 h2
  have ea := e 148 6 (by decide) (by decide)
  unfold mRem mActs
  rw [ea]
  by_cases c1 : c = 152
  · rw [if_pos c1, if_pos c1]
    simp only [e 149 _ (by decide) (fun t => absurd t.1 (by decide)), e 152 _ (by decide) (fun t => absurd t.1 (by decide))]
  · rw [if_neg c1, if_neg c1]
    by_cases c2 : c = 148 ∧ j = 6
    · rw [if_pos c2, if_pos c2]
    · rw [if_neg c2, if_neg c2]
      exact e c j b d
/-- an act with asking and telling beside it keeps all alike -/
theorem act2_LI {g E g1 G' g2 : Nat → Nat → Int} {t' : Nat → Int} {z : Int} {i : Nat} (h : LI g) (b : LB2 g) (hi : i < 12) (hi2 : i = ((g 0 17).toNat + 1) % 12) (hE : ∀ c j, ¬ (16 ≤ c ∧ c ≤ 21) → c ≠ 14 → c ≠ 15 → E c j = cRem g i c j) (hT : RTb 16 E t') (hI : RIv t') (hB : RBd t') (ht : ∀ k, gHp k → t' k = g 149 k) (ht2 : ∀ k, k = 1 ∨ k = 2 ∨ (364 ≤ k ∧ k < 764) → t' k = g 149 k) (h1 : g1 = fu E 159 0 z) (x : rN (mRem (fu g1 148 0 0)) G') (h2 : g2 = frow G' t') : LI g2 ∧ g2 159 0 = z ∧ g2 148 0 = 0 := by
  have k0 : ∀ c j, 148 ≤ c → c ≠ 159 → ¬ (c = 148 ∧ j = 0) → fu g1 148 0 0 c j = g c j := fun c j a a2 d => by
    rw [fu_ne d, h1, fu_nc a2, hE c j (by omega) (by omega) (by omega), cRem_hi hi a]
  have lo : ∀ c j, c < 148 → g2 c j = E c j := fun c j hc => by
    rw [h2, frow_ne (by omega), x c j (by omega) (by omega) (by omega), mRem_ne (by omega) (by omega), fu_nc (by omega), h1, fu_nc (by omega)]
  have up : ∀ c j, 148 ≤ c → c ≠ 149 → c ≠ 154 → c ≠ 159 → ¬ (c = 148 ∧ (j = 0 ∨ j = 9 ∨ j = 10 ∨ j = 11 ∨ j = 13 ∨ (15 ≤ j ∧ j ≤ 19))) → g2 c j = mRem g c j := fun c j a a2 a3 a4 a5 => by
    rw [h2, frow_ne a2, x c j a2 a3 (by omega)]
    exact mRem_cg k0 a a4 (by omega)
  have row : g2 149 = t' := by rw [h2, frow_mm]
  have bA := b.2.1.1
  refine ⟨LI_act h (fun c j k => ?_) (fun k hk => by rw [row]; exact ht2 k hk) (RMain_act2 h.1 b.1.2.1.2 hi hi2 (fun c j k => ?_) (fun c j k => ?_) (fun k hk => by rw [row]; exact ht k hk) ?_ (by rw [row]; exact hI)) (RBs_rem h.2.1 bA (fun j => ?_) ?_ (by rw [row]; exact hB)), ?_, ?_⟩
  · by_cases hc : c < 148
    · rw [lo c j hc, hE c j (by unfold fPk at k; omega) (by unfold fPk at k; omega) (by unfold fPk at k; omega)]
      exact cRem_pk hi k hc
    · rw [up c j (by omega) (by unfold fPk at k; omega) (by unfold fPk at k; omega) (by unfold fPk at k; omega) (by unfold fPk at k; omega)]
      exact mRem_ne (by unfold fPk at k; omega) (by unfold fPk at k; omega)
  · rw [lo c j (by omega)]
    exact hE c j (by omega) (by omega) (by omega)
  · exact up c j (by omega) (by omega) (by omega) (by omega) (by omega)
  · rw [row]
    exact RTb_cg hT (fun j _ _ => lo _ _ (by decide)) (fun k j _ _ => lo _ _ (by omega)) (fun _ _ => rfl)
  · rw [up _ _ (by omega) (by omega) (by omega) (by omega) (by omega)]
    unfold mRem
    rw [if_pos rfl]
  · rw [up _ _ (by omega) (by omega) (by omega) (by omega) (by omega)]
    unfold mRem
    rw [if_neg (by decide), if_pos ⟨rfl, rfl⟩]
  · rw [h2, frow_ne (by decide), x _ _ (by decide) (by decide) (by decide), mRem_ne (by decide) (by decide), fu_nc (by decide), h1, fu_eq]
  · rw [h2, frow_ne (by decide), x _ _ (by decide) (by decide) (by decide), mRem_ne (by decide) (by decide), fu_eq]
theorem RBd_nf {t t' : Nat → Int} (h : RBd t) (n : NI t') (f : NF t t') : RBd t' := by
  obtain ⟨h1, h2, h3, h4⟩ := h
  refine ⟨by rw [f 7 (by decide)]; exact h1, by rw [f 8 (by decide)]; exact h2, fun p hp => ⟨?_, n.1.2.2.2.2.2.2.1 p hp, ?_⟩, by rw [f 0 (by decide)]; exact h4⟩
  · rw [f _ (by omega)]; exact (h3 p hp).1
  · rw [f _ (by omega)]; exact (h3 p hp).2.2
section FIP
variable {W : ax_W} {r : Nat} {g : Nat → Nat → Int} {Q : Nat → Nat → (Nat → Nat → Int) → Prop}
def HM_serve (g : Nat → Nat → Int) (a zc : Int) (g1 : Nat → Nat → Int) : Prop := (zc = 1 ∧ ¬ (0 ≤ a ∧ a < g 3 5) ∧ g1 = g) ∨ (zc = 0 ∧ (0 ≤ a ∧ a < g 3 5) ∧ ∃ segs i G, LwR (g 149) segs ∧ i < 12 ∧ i = ((g 0 17).toNat + 1) % 12 ∧ CT_table (cRem g i) (g 149) G (niT segs a true (g 149)) ∧ g1 = fu G 159 0 ((fJ (niN segs a (niW true (g 149))) - 4 : Nat) : Int))
theorem sp_w_serve {a : Int} (hl : 1 ≤ W.lim) (ha : fR a) (hi : LI g) (hB : LB2 g) : fx W 1 7 159 0 [2, fI a, 1274, 7] [] g (fun k v g1 => k = 1 ∧ ∃ zc, v = fI zc ∧ 0 ≤ zc ∧ zc ≤ 3 ∧ HM_serve g a zc g1) := by
  have cb := LI_cBd hi hB
  have hNI := LI_NI hi hB
  obtain ⟨segs, hR, hL⟩ := RLw_2 hi.2.2.1
  refine sp_wg_serve (P := fun kd v g1 => (kd = 4 ∧ v = 0 ∧ ¬ (0 ≤ a ∧ a < g 3 5) ∧ g1 = g) ∨ (kd = 1 ∧ (0 ≤ a ∧ a < g 3 5) ∧ v = fI (niN segs a (niW true (g 149))) ∧ ∃ i, i < 12 ∧ i = ((g 0 17).toNat + 1) % 12 ∧ CT_table (cRem g i) (g 149) g1 (niT segs a true (g 149)))) hl ?_ (fun kd v g1 hp => ?_)
  · exact sp_cserve (t := g 149) (Nat.le_refl 1) ha cb hB.1.2.1 hi.1.2.1 hi.1.2.2.1 hNI hL hR (fun t => Or.inl ⟨rfl, rfl, t, rfl⟩) (fun t i i1 i2 g' c => Or.inr ⟨rfl, t, rfl, i, i1, i2, c⟩)
  · rcases hp with ⟨rfl, rfl, c, rfl⟩ | ⟨rfl, c, rfl, i, i1, i2, c2⟩
    · exact Or.inr ⟨rfl, rfl, 1, rfl, by decide, by decide, Or.inl ⟨rfl, c, rfl⟩⟩
    · have nb := niN_b (segs := segs) (d := a) (niW_ok (dr := true) hNI).1
      exact Or.inl ⟨rfl, _, rfl, by unfold fR; omega, rfl, 0, rfl, by decide, by decide, Or.inr ⟨rfl, c, segs, i, g1, hR, i1, i2, c2, rfl⟩⟩
theorem sp_r_serve {a zc : Int} {g1 : Nat → Nat → Int} (ha : fR a) (hi : LI g) (hB : LB2 g) (hm : HM_serve g a zc g1) : fx W r 39 325 0 [1186, fI a] [] g1 (PMa g1 zc) := by
  have mb := LI_mBd hi hB
  have hNI := LI_NI hi hB
  have e4 : g 3 5 = g 149 4 := hi.1.2.1.2.1
  rcases hm with ⟨rfl, c, rfl⟩ | ⟨rfl, c, segs, i, G, hR, i1, i2, hC, h1⟩
  · obtain ⟨segs, hR, hL⟩ := RLw_2 hi.2.2.1
    exact sp_mserve ha mb.2.1 hNI hR (fun _ => PMa_no hi (by decide)) (fun t => absurd t (by omega))
  · have em : g1 149 = g 149 := by
      funext j
      rw [h1, fu_nc (by decide), hC.2.1 _ _ (by decide) (by decide) (by decide)]
      exact cRem_hi i1 (by decide)
    have ea : g1 148 6 = g 148 6 := by
      rw [h1, fu_nc (by decide), hC.2.1 _ _ (by decide) (by decide) (by decide)]
      exact cRem_hi i1 (by decide)
    refine sp_mserve (segs := segs) ha (by rw [ea]; exact mb.2.1) (by rw [em]; exact hNI) (by rw [em]; exact hR) (fun t => absurd c (by rw [em] at t; omega)) (fun t G' x => ?_)
    rw [em]
    obtain ⟨q1, q2, q3⟩ := act2_LI hi hB i1 i2 hC.2.1 hC.1 hC.2.2.1.2 (RBd_nf hi.2.1.1 hC.2.2.1 hC.2.2.2) (fun k hk => hC.2.2.2 k (by unfold gHp at hk; omega)) (fun k hk => hC.2.2.2 k (by omega)) h1 x rfl
    have nb := niN_b (segs := segs) (d := a) (niW_ok (dr := true) hNI).1
    exact ⟨rfl, _, rfl, by unfold fR; omega, q1, q3, fun _ => by rw [h1, fu_eq], by rw [q2, h1, fu_eq]⟩
def HM_nights (g : Nat → Nat → Int) (a zc : Int) (g1 : Nat → Nat → Int) : Prop := (zc = 1 ∧ ¬ (1 ≤ a ∧ a ≤ 60) ∧ g1 = g) ∨ (zc = 0 ∧ (1 ≤ a ∧ a ≤ 60) ∧ ∃ (segs : List (List Int × Int × Int)) (i n : Nat) (G : Nat → Nat → Int), a = n ∧ LwR (g 149) segs ∧ i < 12 ∧ i = ((g 0 17).toNat + 1) % 12 ∧ CT_table (cRem g i) (g 149) G (goL segs true n (g 149)) ∧ g1 = fu G 159 0 ((fJ (goN segs true n (g 149) 0) - 4 : Nat) : Int))
theorem sp_w_nights {a : Int} (hl : 1 ≤ W.lim) (ha : fR a) (hi : LI g) (hB : LB2 g) : fx W 1 8 176 0 [2, fI a, 1274, 7] [] g (fun k v g1 => k = 1 ∧ ∃ zc, v = fI zc ∧ 0 ≤ zc ∧ zc ≤ 3 ∧ HM_nights g a zc g1) := by
  have cb := LI_cBd hi hB
  have hNI := LI_NI hi hB
  obtain ⟨segs, hR, hL⟩ := RLw_2 hi.2.2.1
  refine sp_wg_nights (P := fun kd v g1 => (kd = 2 ∧ v = 0 ∧ ¬ (1 ≤ a ∧ a ≤ 60) ∧ g1 = g) ∨ (kd = 1 ∧ (1 ≤ a ∧ a ≤ 60) ∧ ∃ n : Nat, a = n ∧ v = fI (goN segs true n (g 149) 0) ∧ ∃ i, i < 12 ∧ i = ((g 0 17).toNat + 1) % 12 ∧ CT_table (cRem g i) (g 149) g1 (goL segs true n (g 149)))) hl ?_ (fun kd v g1 hp => ?_)
  · exact sp_cnights (t := g 149) (Nat.le_refl 1) ha cb hB.1.2.1 hi.1.2.1 hi.1.2.2.1 hNI hL hR (fun t => Or.inl ⟨rfl, rfl, t, rfl⟩) (fun n en t i i1 i2 g' c => Or.inr ⟨rfl, t, n, en, rfl, i, i1, i2, c⟩)
  · rcases hp with ⟨rfl, rfl, c, rfl⟩ | ⟨rfl, c, n, en, rfl, i, i1, i2, c2⟩
    · exact Or.inr ⟨rfl, rfl, 1, rfl, by decide, by decide, Or.inl ⟨rfl, c, rfl⟩⟩
    · have nb := goN_b (segs := segs) (dr := true) n (g 149) 0 hNI
      exact Or.inl ⟨rfl, _, rfl, by unfold fR; omega, rfl, 0, rfl, by decide, by decide, Or.inr ⟨rfl, c, segs, i, n, g1, en, hR, i1, i2, c2, rfl⟩⟩
theorem sp_r_nights {a zc : Int} {g1 : Nat → Nat → Int} (ha : fR a) (hi : LI g) (hB : LB2 g) (hm : HM_nights g a zc g1) : fx W r 40 337 0 [1186, fI a] [] g1 (PMa g1 zc) := by
  have mb := LI_mBd hi hB
  have hNI := LI_NI hi hB
  rcases hm with ⟨rfl, c, rfl⟩ | ⟨rfl, c, segs, i, n, G, en, hR, i1, i2, hC, h1⟩
  · obtain ⟨segs, hR, hL⟩ := RLw_2 hi.2.2.1
    exact sp_mnights ha mb.2.1 hNI hR (fun _ => PMa_no hi (by decide)) (fun _ _ t => absurd t c)
  · have em : g1 149 = g 149 := by
      funext j
      rw [h1, fu_nc (by decide), hC.2.1 _ _ (by decide) (by decide) (by decide)]
      exact cRem_hi i1 (by decide)
    have ea : g1 148 6 = g 148 6 := by
      rw [h1, fu_nc (by decide), hC.2.1 _ _ (by decide) (by decide) (by decide)]
      exact cRem_hi i1 (by decide)
    refine sp_mnights (segs := segs) ha (by rw [ea]; exact mb.2.1) (by rw [em]; exact hNI) (by rw [em]; exact hR) (fun t => absurd c t) (fun n' en' t G' x => ?_)
    have nn : n' = n := by omega
    subst nn
    rw [em]
    obtain ⟨q1, q2, q3⟩ := act2_LI hi hB i1 i2 hC.2.1 hC.1 hC.2.2.1.2 (RBd_nf hi.2.1.1 hC.2.2.1 hC.2.2.2) (fun k hk => hC.2.2.2 k (by unfold gHp at hk; omega)) (fun k hk => hC.2.2.2 k (by omega)) h1 x rfl
    have nb := goN_b (segs := segs) (dr := true) n' (g 149) 0 hNI
    exact ⟨rfl, _, rfl, by unfold fR; omega, q1, q3, fun _ => by rw [h1, fu_eq], by rw [q2, h1, fu_eq]⟩
def HM_off (g : Nat → Nat → Int) (a zc : Int) (g1 : Nat → Nat → Int) : Prop := ∃ segs, LwR (g 149) segs ∧ ((zc = 1 ∧ ¬ (0 ≤ a ∧ a < g 3 4) ∧ g1 = g) ∨ (zc = 2 ∧ (∃ p : Nat, a = p ∧ (p : Int) < g 3 4 ∧ ¬ (awT (g 149) p ∧ mMay (g 149) segs p)) ∧ fFS g g1) ∨ (zc = 0 ∧ ∃ (p i : Nat) (gf : Nat → Nat → Int), a = p ∧ (p : Int) < g 3 4 ∧ (awT (g 149) p ∧ mMay (g 149) segs p) ∧ fFS g gf ∧ i < 12 ∧ i = ((g 0 17).toNat + 1) % 12 ∧ g1 = fu (cNote 16 (fu (fu (cRem gf i) 16 7 (fop 4 (g 16 7) (fop 6 1 (p : Int)))) 16 8 (if 9999 < g 16 8 + g 4 p then 9999 else g 16 8 + g 4 p)) p 1 (g 17 p)) 159 0 ((fJ (if 9999 < g 16 8 + g 4 p then 9999 else g 16 8 + g 4 p) - 4 : Nat) : Int)))
theorem sp_w_off {a : Int} (hl : 1 ≤ W.lim) (ha : fR a) (hi : LI g) (hB : LB2 g) : fx W 1 5 167 0 [2, fI a, 1274, 7] [] g (fun k v g1 => k = 1 ∧ ∃ zc, v = fI zc ∧ 0 ≤ zc ∧ zc ≤ 3 ∧ HM_off g a zc g1) := by
  have cb := LI_cBd hi hB
  obtain ⟨segs, hR, hL⟩ := RLw_2 hi.2.2.1
  refine sp_wg_off (P := fun kd v g1 => (kd = 4 ∧ v = 0 ∧ ¬ (0 ≤ a ∧ a < g 3 4) ∧ g1 = g) ∨ (kd = 6 ∧ v = 0 ∧ (∃ p : Nat, a = p ∧ (p : Int) < g 3 4 ∧ ¬ (awT (g 149) p ∧ mMay (g 149) segs p)) ∧ fFS g g1) ∨ (kd = 1 ∧ ∃ (p i : Nat) (gf : Nat → Nat → Int), v = fI (if 9999 < g 16 8 + g 4 p then 9999 else g 16 8 + g 4 p) ∧ a = p ∧ (p : Int) < g 3 4 ∧ (awT (g 149) p ∧ mMay (g 149) segs p) ∧ fFS g gf ∧ i < 12 ∧ i = ((g 0 17).toNat + 1) % 12 ∧ g1 = cNote 16 (fu (fu (cRem gf i) 16 7 (fop 4 (g 16 7) (fop 6 1 (p : Int)))) 16 8 (if 9999 < g 16 8 + g 4 p then 9999 else g 16 8 + g 4 p)) p 1 (g 17 p))) hl ?_ (fun kd v g1 hp => ?_)
  · exact sp_coff (t := g 149) (segs := segs) (Nat.le_refl 1) ha cb hi.1.2.1 hi.1.2.2.1 hL hR (fun t => Or.inl ⟨rfl, rfl, t, rfl⟩) (fun p e1 e2 e3 g1 x1 => Or.inr (Or.inl ⟨rfl, rfl, ⟨p, e1, e2, e3⟩, x1⟩)) (fun p e1 e2 e3 e4 g1 x1 i i1 i2 => Or.inr (Or.inr ⟨rfl, p, i, g1, rfl, e1, e2, ⟨e3, e4⟩, x1, i1, i2, rfl⟩))
  · rcases hp with ⟨rfl, rfl, c, rfl⟩ | ⟨rfl, rfl, c, c2⟩ | ⟨rfl, p, i, gf, rfl, q1, q2, q3, q4, q5, q6, rfl⟩
    · exact Or.inr (Or.inl ⟨rfl, rfl, 1, rfl, by decide, by decide, segs, hR, Or.inl ⟨rfl, c, rfl⟩⟩)
    · exact Or.inr (Or.inr ⟨rfl, rfl, 2, rfl, by decide, by decide, segs, hR, Or.inr (Or.inl ⟨rfl, c, c2⟩)⟩)
    · have hp8 : p < 8 := by have := cb.1; omega
      have b8 := cb.2.2.2.2.2.2.1
      have bw := cb.2.2.2.2.2.2.2.1 p hp8
      exact Or.inl ⟨rfl, _, rfl, by unfold fR; split <;> omega, rfl, 0, rfl, by decide, by decide, segs, hR, Or.inr (Or.inr ⟨rfl, p, i, gf, q1, q2, q3, q4, q5, q6, rfl⟩)⟩
theorem LI_fs {g g' : Nat → Nat → Int} (h : LI g) (x : fFS g g') : LI g' := LI_cg h (fun c j k => x c j (by unfold RK at k; omega) (by unfold RK at k; omega)) (fun c j k _ _ => x c j (by unfold fPk at k; omega) (by unfold fPk at k; omega)) (by rw [x _ _ (by decide) (by decide), x 148 8 (by decide) (by decide)]; exact h.2.2.2.2.1)
theorem LI_rA {g g' : Nat → Nat → Int} (h : LI g) (x : rA g g') : LI g' := LI_cg h (fun c j k => x c j (by unfold RK at k; omega) (by unfold RK at k; omega)) (fun c j k _ _ => x c j (by unfold fPk at k; omega) (by unfold fPk at k; omega)) (by rw [x _ _ (by decide) (by decide), x 148 8 (by decide) (by decide)]; exact h.2.2.2.2.1)
theorem sp_r_off {a zc : Int} {g1 : Nat → Nat → Int} (ha : fR a) (hi : LI g) (hB : LB2 g) (hm : HM_off g a zc g1) : fx W r 37 332 0 [1186, fI a] [] g1 (PMa g1 zc) := by
  have mb := LI_mBd hi hB
  have hNI := LI_NI hi hB
  have hH := hi.1.2.1
  have hT := hi.1.2.2.1
  have e3 : g 3 4 = g 149 3 := hH.1
  have b3 := mb.1
  obtain ⟨segs, hR, hm⟩ := hm
  have em : g1 149 = g 149 ∧ g1 148 6 = g 148 6 := by
    rcases hm with ⟨-, -, rfl⟩ | ⟨-, -, x⟩ | ⟨-, p, i, gf, -, -, -, x, i1, -, rfl⟩
    · exact ⟨rfl, rfl⟩
    · exact ⟨funext (fun j => x _ _ (by decide) (by decide)), x _ _ (by decide) (by decide)⟩
    · refine ⟨?_, ?_⟩
      · funext j
        rw [fu_nc (by decide), cNote_hi (by decide), fu_nc (by decide), fu_nc (by decide), cRem_hi i1 (by decide)]
        exact x _ _ (by decide) (by decide)
      · rw [fu_nc (by decide), cNote_hi (by decide), fu_nc (by decide), fu_nc (by decide), cRem_hi i1 (by decide)]
        exact x _ _ (by decide) (by decide)
  have mb1 : mBd g1 := by
    unfold mBd at mb ⊢
    rw [em.1, em.2]
    exact mb
  refine sp_moff (segs := segs) ha mb1 (by rw [em.1]; exact hNI) (by rw [em.1]; exact hR) (fun t => ?_) (fun p e1 e2 e4 gr x => ?_) (fun p e1 e2 e4 e5 gr x => ?_)
  all_goals simp only [em.1] at *
  · rcases hm with ⟨rfl, c, rfl⟩ | ⟨rfl, ⟨p, c1, c2, c3⟩, x⟩ | ⟨rfl, p, i, gf, q1, q2, q3, q4, q5, q6, rfl⟩
    · exact PMa_no hi (by decide)
    · exfalso; omega
    · exfalso; omega
  · rcases hm with ⟨rfl, c, rfl⟩ | ⟨rfl, ⟨p', c1, c2, c3⟩, x1⟩ | ⟨rfl, p', i, gf, q1, q2, q3, q4, q5, q6, rfl⟩
    · exfalso; omega
    · refine ⟨rfl, 0, rfl, by unfold fR; decide, LI_th (LI_rA (LI_th (LI_fs hi x1)) x), fu_eq _ _ _ _, fun t => absurd t (by decide), ?_⟩
      rw [fu_nc (by decide), x _ _ (by decide) (by decide), fu_nc (by decide)]
    · have pp : p = p' := by omega
      subst pp
      exact absurd q3 e4
  · have hp8 : p < 8 := by omega
    have bw := mb.2.2.2.2 p hp8
    have b8 := mb.2.2.1
    have b9 := hB.2.1.2.2.2.1
    have bp := hB.2.2.2.1 p hp8
    rcases hm with ⟨rfl, c, rfl⟩ | ⟨rfl, ⟨p', c1, c2, c3⟩, x1⟩ | ⟨rfl, p', i, gf, q1, q2, q3, q4, q5, q6, h1⟩
    · exfalso; omega
    · have pp : p = p' := by omega
      subst pp
      exact absurd ⟨e4, e5⟩ c3
    · have pp : p = p' := by omega
      subst pp
      have ew : g 4 p = g 149 (14 + 7 * p) := hH.2.2.2.2.2.2.1 p hp8
      have e8 : g 16 8 = g 149 8 := hT.1.2.2.2.2.2.1
      have epl : g 17 p = g 149 (12 + 7 * p) := hT.1.1 p hp8
      have awp := e4.1
      rw [e8, ew, epl] at h1
      have tt : tOff (g 149) p = tNote (tU (tU (g 149) (12 + 7 * p + 5) 1) 8 (if 9999 < g 149 8 + g 149 (14 + 7 * p) then 9999 else g 149 8 + g 149 (14 + 7 * p))) p 1 (g 149 (12 + 7 * p)) := by
        unfold tOff tIron
        rw [tU_ne (by omega)]
      have ev : tOff (g 149) p 8 = if 9999 < g 149 8 + g 149 (14 + 7 * p) then 9999 else g 149 8 + g 149 (14 + 7 * p) := by rw [tt, tNote_hi (by decide), tU_eq]
      have eG : ∀ c j, 3 ≤ c → c < 76 → c ≠ 14 → c ≠ 15 → cRem gf i c j = g c j := fun c j h1 h2 h3 h4 => by rw [cRem_ne q5 (fun t => by omega) (Or.inl h2), q4 c j h3 h4]
      have b0 : RTb 16 (cRem gf i) (g 149) := RTb_cg hT (fun j _ _ => eG _ _ (by decide) (by decide) (by decide) (by decide)) (fun k j _ _ => eG _ _ (by omega) (by omega) (by omega) (by omega)) (fun _ _ => rfl)
      have b1 := RTb_d (z := 1) (v := fop 4 (g 16 7) (fop 6 1 (p : Int))) b0 hp8 (fun q hq => by
        rw [eG _ _ (by decide) (by decide) (by decide) (by decide)]
        exact fbt_set hp8 hq)
      have b2 := RTb_f (j := 8) (k := 8) (v := if 9999 < g 149 8 + g 149 (14 + 7 * p) then 9999 else g 149 8 + g 149 (14 + 7 * p)) b1 (by omega)
      have b4 := RTb_note (p := (p : Int)) (k := 1) (w := g 149 (12 + 7 * p)) b2 (by rw [tU_ne (by decide), tU_ne (by omega)]; exact b9.1) (by rw [tU_ne (by decide), tU_ne (by omega)]; exact b9.2) (by omega) (by omega) (by decide) (by decide) (by have := hB.2.2.2.2.1 p hp8; omega) (hB.2.2.2.2.1 p hp8).2
      rw [← tt] at b4
      have iv : RIv (tOff (g 149) p) := by
        rw [tt]
        refine RIv_note (RIv_u ?_ ⟨by decide, Or.inl (by decide)⟩)
        obtain ⟨r1, r2, r3⟩ := hi.1.2.2.2.1
        refine ⟨fun q hq => ?_, fun q hq => ?_, fun q hq h3 => ?_⟩
        · rw [tU_ne (by omega), tU_ne (by omega)]; exact r1 q hq
        · by_cases e : q = p
          · subst e
            rw [tU_ne (j := 12 + 7 * q) (by omega)]
            exact fun _ => awp
          · rw [tU_ne (by omega), tU_ne (by omega)]; exact r2 q hq
        · rw [tU_ne (by omega)] at h3
          rw [tU_ne (by omega)]; exact r3 q hq h3
      have bd : RBd (tOff (g 149) p) := by
        rw [tt]
        exact RBd_n (RBd_i (RBd_u hi.2.1.1 (by omega)) (by split <;> omega) (by split <;> omega))
      have th : ∀ k, k < 10 ∨ (12 ≤ k ∧ k < 124) ∨ 364 ≤ k → k ≠ 8 → k ≠ 12 + 7 * p + 5 → tOff (g 149) p k = g 149 k := fun k k1 k2 k3 => by
        rw [tt]
        unfold tNote
        rw [if_neg (by omega), if_neg (by omega), if_neg (by omega), if_neg (by omega), if_neg (by omega), if_neg (by omega), tU_ne k2, tU_ne k3]
      have xr := mRem_rA x
      rw [fu_eq] at xr
      have hE : ∀ c j, ¬ (16 ≤ c ∧ c ≤ 21) → c ≠ 14 → c ≠ 15 → cNote 16 (fu (fu (cRem gf i) 16 7 (fop 4 (g 16 7) (fop 6 1 (p : Int)))) 16 8 (if 9999 < g 149 8 + g 149 (14 + 7 * p) then 9999 else g 149 8 + g 149 (14 + 7 * p))) p 1 (g 149 (12 + 7 * p)) c j = cRem g i c j := fun c j a a2 a3 => by
        rw [cNote_hi (by omega), fu_nc (by omega), fu_nc (by omega)]
        exact cRem_fs q4 a2 a3
      obtain ⟨s1, s2, s3⟩ := act2_LI hi hB q5 q6 hE b4 iv bd (fun k hk => th k (by unfold gHp at hk; omega) (by unfold gHp at hk; omega) (by unfold gHp at hk; omega)) (fun k hk => th k (by omega) (by omega) (by omega)) h1 xr rfl
      refine ⟨rfl, _, rfl, ?_, s1, s3, fun _ => ?_, ?_⟩
      · rw [ev]; unfold fR; split <;> omega
      · rw [h1, fu_eq, ev]
      · rw [s2, h1, fu_eq]
end FIP
