/-! fx: seed, undo, feed, image, back keep all alike -/
theorem RMain_cgT {g g2 : Nat → Nat → Int} (h : RMain g) (t : ∀ j, j < 400 → g2 2 j = g2 153 j) (e : ∀ c j, RK c j → c ≠ 2 → c ≠ 153 → g2 c j = g c j) : RMain g2 := by
  have q : RMain (fun c j => if c = 2 ∨ c = 153 then g c j else g2 c j) := RMain_cg h (fun c j k => by
    by_cases hc : c = 2 ∨ c = 153
    · rw [if_pos hc]
    · rw [if_neg hc]; exact e c j k (by omega) (by omega))
  have e2 : ∀ c j, c ≠ 2 → c ≠ 153 → g2 c j = (fun c j => if c = 2 ∨ c = 153 then g c j else g2 c j) c j := fun c j h1 h2 => (if_neg (by omega)).symm
  generalize (fun c j => if c = 2 ∨ c = 153 then g c j else g2 c j) = G at q e2
  obtain ⟨a1, a2, a3, a4, a5⟩ := q
  have em : g2 149 = G 149 := by
    funext j
    exact e2 _ _ (by decide) (by decide)
  refine ⟨t, ?_, ?_, by rw [em]; exact a4, RPs_cg a5 (fun c j h1 h2 => e2 c j (by omega) (by omega)) (e2 _ _ (by decide) (by decide)) (e2 _ _ (by decide) (by decide)) (fun j => e2 _ _ (by decide) (by decide)) (e2 _ _ (by decide) (by decide)) (fun k _ => by rw [em])⟩
  · rw [em]; exact RHf_eq a2 (fun j _ _ => e2 _ _ (by decide) (by decide)) (fun i j i1 i2 => e2 _ _ (by omega) (by omega))
  · rw [em]; exact RTb_cg a3 (fun j _ _ => e2 _ _ (by decide) (by decide)) (fun i j i1 i2 => e2 _ _ (by omega) (by omega)) (fun _ _ => rfl)
section FIS
variable {W : ax_W} {r : Nat} {g : Nat → Nat → Int}
/-- the reference has said the same -/
def PMb (zv : Int) (k w : Nat) (g2 : Nat → Nat → Int) : Prop := k = 1 ∧ w = fI zv ∧ fR zv ∧ LI g2
def HM_seed (g : Nat → Nat → Int) (b zv : Int) (g1 : Nat → Nat → Int) : Prop := zv = g 16 10 ∧ g1 = fu g 16 10 b
theorem sp_w_seed {b : Int} (hb : fR b) : fx W r 0 61 0 [2, fI b, 7] [] g (fun k v g1 => k = 1 ∧ ∃ zv, v = fI zv ∧ fR zv ∧ HM_seed g b zv g1) := by
  refine fx_rg (fun hg => ?_)
  have h10 := hg 16 10 (by decide) (by decide +kernel) (by decide +kernel)
  exact sp_cseed hb ⟨rfl, _, rfl, h10, rfl, rfl⟩
theorem sp_r_seed {b zv : Int} {g1 : Nat → Nat → Int} (hb : fR b) (hi : LI g) (hB : LB2 g) (hz : fR zv) (hm : HM_seed g b zv g1) : fx W r 0 406 0 [1186, fI b, 7] [] g1 (PMb zv) := by
  obtain ⟨rfl, rfl⟩ := hm
  have e11 : g 16 10 = g 149 11 := hi.1.2.2.1.1.2.2.2.2.2.2.2
  have em : fu g 16 10 b 149 = g 149 := by funext j; exact fu_nc (by decide)
  refine sp_mseed hb ?_
  rw [em, ← e11]
  refine ⟨rfl, rfl, hz, ?_⟩
  have hR : RMain (frow (fu (fu g 16 10 b) 148 0 0) (tU (g 149) 11 b)) := RMain_seed (b := b) hi.1 hB.1.2.1.2 (fun c j hc => by rw [frow_ne (by omega), fu_nc (by omega)]) (fun c j hc hj => by
    by_cases c1 : c = 149
    · subst c1; rw [frow_m, frow_m]
    · rw [frow_ne c1, frow_ne c1, fu_ne hj, fu_nc (by omega)])
  refine LI_act hi (fun c j k => ?_) (fun k hk => by rw [frow_m, tU_ne (by omega)]) hR (RBs_cg hi.2.1 (fun j => ?_) ?_ ?_)
  · unfold fPk at k
    rw [frow_ne (by omega), fu_ne (by omega), fu_nc (by omega)]
  · rw [frow_ne (by decide), fu_nc (by decide), fu_nc (by decide)]
  · rw [frow_ne (by decide), fu_nj (by decide), fu_nc (by decide)]
  · rw [frow_mm]; exact RBd_u hi.2.1.1 (by omega)
def HM_undo (g : Nat → Nat → Int) (zv : Int) (g1 : Nat → Nat → Int) : Prop := (zv = 0 ∧ g 0 16 = 0 ∧ g1 = g) ∨ (zv = 1 ∧ 1 ≤ g 0 16 ∧ ∃ i : Nat, i < 12 ∧ g 0 17 = (i : Int) ∧ g1 = cUnd g i)
theorem sp_w_undo (hB : LB2 g) : fx W r 1 62 0 [2] [] g (fun k v g1 => k = 1 ∧ ∃ zv, v = fI zv ∧ fR zv ∧ HM_undo g zv g1) := by
  obtain ⟨-, -, b3, b4, -⟩ := hB.1
  exact sp_cund b3.1 b3.2 b4.2 (fun h => ⟨rfl, 0, rfl, by unfold fR; decide, Or.inl ⟨rfl, h, rfl⟩⟩) (fun h i i1 i2 => ⟨rfl, 1, rfl, by unfold fR; decide, Or.inr ⟨rfl, h, i, i1, i2, rfl⟩⟩) b4.1
theorem LI_th2 {zv : Int} (hi : LI g) : LI (fu g 148 0 zv) := LI_th hi
theorem cUnd_ne {g : Nat → Nat → Int} {i c j : Nat} (h1 : c < 16 ∨ 16 + 5 < c) (h2 : ¬ (c = 0 ∧ (j = 17 ∨ j = 16))) : cUnd g i c j = g c j := by
  unfold cUnd
  rw [fu_ne (by omega), fu_ne (by omega), cpT_ne (by omega)]
theorem sp_r_undo {zv : Int} {g1 : Nat → Nat → Int} (hi : LI g) (hB : LB2 g) (hm : HM_undo g zv g1) : fx W r 0 407 0 [1186, 7] [] g1 (PMb zv) := by
  have bA := hB.2.1.1
  have eA : g 0 16 = g 148 6 := hi.1.2.2.2.2.1
  have hP := hi.1.2.2.2.2.2.2.2.2.2
  have up : ∀ c j, 148 ≤ c → g1 c j = g c j := fun c j hc => by
    rcases hm with ⟨-, -, rfl⟩ | ⟨-, -, i, -, -, rfl⟩
    · rfl
    · exact cUnd_ne (by omega) (by omega)
  refine sp_mund (by rw [up _ _ (by decide)]; exact bA.1) (by rw [up _ _ (by decide)]; exact bA.2) (fun h => ?_) (fun h => ?_)
  · rw [up _ _ (by decide)] at h
    rcases hm with ⟨rfl, h0, rfl⟩ | ⟨rfl, h1, i, i1, i2, rfl⟩
    · exact ⟨rfl, rfl, by unfold fR; decide, LI_th hi⟩
    · exact absurd h1 (by omega)
  · rw [up _ _ (by decide)] at h
    rcases hm with ⟨rfl, h0, rfl⟩ | ⟨rfl, h1, i, i1, i2, eg⟩
    · exact absurd h0 (by omega)
    · refine ⟨rfl, rfl, by unfold fR; decide, ?_⟩
      have ec : ∀ c j, c < 148 → mUnd (fu g1 148 0 0) c j = cUnd g i c j := fun c j hc => by rw [mUnd_ne (by omega) (by omega), fu_nc (by omega), eg]
      have ea : fu g1 148 0 0 148 6 = g 148 6 := by rw [fu_nj (by decide), up _ _ (by decide)]
      have er : ∀ k, k < 364 → mUnd (fu g1 148 0 0) 149 k = g 152 (364 * (g 148 6 - 1).toNat + k) := fun k hk => by
        rw [mUnd_m, if_pos hk, ea, fu_nc (by decide), up _ _ (by decide)]
      have er2 : ∀ k, ¬ k < 364 → mUnd (fu g1 148 0 0) 149 k = g 149 k := fun k hk => by
        rw [mUnd_m, if_neg hk, fu_nc (by decide), up _ _ (by decide)]
      have em : ∀ c j, 148 ≤ c → ¬ (c = 148 ∧ j = 0) → mUnd (fu g1 148 0 0) c j = mUnd g c j := fun c j hc hj => by
        by_cases c1 : c = 149
        · subst c1
          rw [mUnd_m (g := g)]
          by_cases k : j < 364
          · rw [if_pos k]; exact er j k
          · rw [if_neg k]; exact er2 j k
        · by_cases c2 : c = 148 ∧ j = 6
          · obtain ⟨rfl, rfl⟩ := c2
            rw [mUnd_a, mUnd_a, ea]
          · rw [mUnd_ne c1 c2, mUnd_ne c1 c2, fu_ne hj, up c j hc]
      have hR := RMain_undo hi.1 hB.1.2.1.2 h i2 ec em
      refine LI_act hi (fun c j k => ?_) (fun k hk => ?_) hR (RBs_und hi.2.1 h (fun j => ?_) ?_ er)
      · unfold fPk at k
        by_cases hc : c < 148
        · rw [ec c j hc]; exact cUnd_ne (by omega) (by omega)
        · rw [em c j (by omega) (by omega), mUnd_ne (by omega) (by omega)]
      · by_cases k3 : k < 364
        · rw [er k k3]
          have := (hP (g 148 6 - 1).toNat (by omega)).2.2.2 k (by unfold gHp; omega)
          exact this
        · exact er2 k k3
      · rw [em _ _ (by decide) (fun t => absurd t.1 (by decide)), mUnd_ne (by decide) (fun t => absurd t.1 (by decide))]
      · rw [em _ _ (by decide) (by decide), mUnd_a]
def HM_feed (g : Nat → Nat → Int) (a b c d e : Int) (g1 : Nat → Nat → Int) : Prop := ∃ L : Nat, g 1 1 = (L : Nat) ∧ ((400 < L + 20 ∧ g1 = g) ∨ (L + 20 ≤ 400 ∧ g1 = ffd g 2 1 1 L (fbs a b c d e) 20))
theorem sp_w_feed {a b c d e : Int} (ra : fR a) (rb : fR b) (rc : fR c) (rd : fR d) (re : fR e) (hB : LB2 g) : fx W r 1 14 0 [2, fI a, fI b, fI c, fI d, fI e] [] g (fun k v g1 => k = 1 ∧ v % 8 ≠ 4 ∧ HM_feed g a b c d e g1) := by
  have b7 := hB.1.2.2.2.2.2.2.1
  have hl : g 1 1 = ((g 1 1).toNat : Nat) := by omega
  exact sp_cfeed ra rb rc rd re hl (by omega) (fun h v hv => ⟨rfl, hv, _, hl, Or.inl ⟨h, rfl⟩⟩) (fun h v hv => ⟨rfl, hv, _, hl, Or.inr ⟨h, rfl⟩⟩)
theorem sp_r_feed {a b c d e : Int} {g1 : Nat → Nat → Int} (ra : fR a) (rb : fR b) (rc : fR c) (rd : fR d) (re : fR e) (hi : LI g) (hB : LB2 g) (hm : HM_feed g a b c d e g1) : fx W r 0 263 0 [1186, fI a, fI b, fI c, fI d, fI e, 7, 7] [] g1 (fun k v g2 => k = 1 ∧ v % 8 ≠ 4 ∧ LI g2) := by
  have b7 := hB.1.2.2.2.2.2.2.1
  have el : g 1 1 = g 148 8 := hi.2.2.2.2.1
  obtain ⟨L, hL, hm⟩ := hm
  have up : ∀ c j, 148 ≤ c → g1 c j = g c j := fun c j hc => by
    rcases hm with ⟨-, rfl⟩ | ⟨-, rfl⟩
    · rfl
    · exact ffd_ne (by omega) (by omega)
  have et : g1 148 8 = (L : Nat) := by rw [up _ _ (by decide), ← el, hL]
  refine sp_mfeed ra rb rc rd re et (by omega) (fun h v hv => ?_) (fun h v hv => ?_)
  · rcases hm with ⟨-, rfl⟩ | ⟨h2, -⟩
    · exact ⟨rfl, hv, LI_th hi⟩
    · exact absurd h2 (by omega)
  · rcases hm with ⟨h2, -⟩ | ⟨-, eg⟩
    · exact absurd h2 (by omega)
    · refine ⟨rfl, hv, ?_⟩
      generalize fbs a b c d e = bs at eg ⊢
      have ne : ∀ c j, c ≠ 2 → c ≠ 153 → ¬ (c = 1 ∧ j = 1) → ¬ (c = 148 ∧ (j = 8 ∨ j = 0)) → ffd (fu g1 148 0 0) 153 148 8 L bs 20 c j = g c j := fun c j h1 h2 h3 h4 => by
        rw [ffd_ne h2 (by omega), fu_ne (by omega), eg, ffd_ne h1 h3]
      have em : ffd (fu g1 148 0 0) 153 148 8 L bs 20 149 = g 149 := by
        funext j
        exact ne _ _ (by decide) (by decide) (fun t => absurd t.1 (by decide)) (fun t => absurd t.1 (by decide))
      obtain ⟨a1, a2, a3, a4, a5, a6⟩ := hi
      refine ⟨RMain_cgT a1 (fun j hj => ?_) (fun c j k k1 k2 => ne c j k1 k2 (by unfold RK at k; omega) (by unfold RK at k; omega)), RBs_cg a2 (fun j => ne _ _ (by decide) (by decide) (fun t => absurd t.1 (by decide)) (fun t => absurd t.1 (by decide))) (ne _ _ (by decide) (by decide) (by decide) (by decide)) (by rw [em]; exact a2.1), ?_, RImg_cg a4 (fun c j k => ne c j (by omega) (by omega) (by omega) (by omega)) (ne _ _ (by decide) (by decide) (by decide) (by decide)), ?_, ?_⟩
      · have q := a1.1 j hj
        have e1 : ffd (fu g1 148 0 0) 153 148 8 L bs 20 2 j = if L ≤ j ∧ j < L + 20 then bs (j - L) else g 2 j := by
          rw [ffd_ne (by decide) (fun t => absurd t.1 (by decide)), fu_nc (by decide), eg]
          unfold ffd
          by_cases k : L ≤ j ∧ j < L + 20
          · rw [if_pos ⟨rfl, k⟩, if_pos k]
          · rw [if_neg (fun t => k t.2), if_neg (fun t => absurd t.1 (by decide)), if_neg k]
        have e2 : ffd (fu g1 148 0 0) 153 148 8 L bs 20 153 j = if L ≤ j ∧ j < L + 20 then bs (j - L) else g 153 j := by
          have e3 : fu g1 148 0 0 153 j = g 153 j := by rw [fu_nc (by decide), up _ _ (by decide)]
          rw [← e3]
          unfold ffd
          by_cases k : L ≤ j ∧ j < L + 20
          · rw [if_pos ⟨rfl, k⟩, if_pos k]
          · rw [if_neg (fun t => k t.2), if_neg (fun t => absurd t.1 (by decide)), if_neg k]
        rw [e1, e2, q]
      · rw [em]
        exact RLw_eq a3 (ne _ _ (by decide) (by decide) (by decide) (by decide)) (fun i j i1 i2 => ne _ _ (by omega) (by omega) (by omega) (by omega)) (fun _ _ => rfl)
      · rw [ffd_l (by decide), ffd_ne (by decide) (by decide), fu_nc (by decide), eg, ffd_l (by decide)]
      · rw [ne _ _ (by decide) (by decide) (by decide) (by decide), ne _ _ (by decide) (by decide) (by decide) (by decide)]
        exact a6
theorem cpL_7 {g : Nat → Nat → Int} {a b : Nat} : cpL g a b b 7 = g a 7 := by
  unfold cpL
  rw [fu_nj (by decide), fu_eq]
theorem cpL_a {g : Nat → Nat → Int} {a b i j : Nat} (h1 : 1 ≤ i) (h4 : i ≤ 5) (hd : a + 5 < b ∨ b + 5 < a) : cpL g a b (b + i) j = g (a + i) j := by
  unfold cpL
  rw [fu_nc (by omega), fu_nc (by omega)]
  rcases (by omega : i = 1 ∨ i = 2 ∨ i = 3 ∨ i = 4 ∨ i = 5) with rfl | rfl | rfl | rfl | rfl
  · rw [fcy_app, if_neg (by omega), fcy_app, if_neg (by omega), fcy_app, if_neg (by omega), fcy_app, if_neg (by omega), fcy_app, if_pos rfl]
  · rw [fcy_app, if_neg (by omega), fcy_app, if_neg (by omega), fcy_app, if_neg (by omega), fcy_app, if_pos rfl, fcy_app, if_neg (by omega)]
  · rw [fcy_app, if_neg (by omega), fcy_app, if_neg (by omega), fcy_app, if_pos rfl, fcy_app, if_neg (by omega), fcy_app, if_neg (by omega)]
  · rw [fcy_app, if_neg (by omega), fcy_app, if_pos rfl, fcy_app, if_neg (by omega), fcy_app, if_neg (by omega), fcy_app, if_neg (by omega)]
  · rw [fcy_app, if_pos rfl, fcy_app, if_neg (by omega), fcy_app, if_neg (by omega), fcy_app, if_neg (by omega), fcy_app, if_neg (by omega)]
/-- the class's image -/
def cImg (g : Nat → Nat → Int) : Nat → Nat → Int := fu (cpT (cpL (cpH g 3 56) 8 61) 16 69) 0 15 1
def cBck (g : Nat → Nat → Int) : Nat → Nat → Int := fu (cpT (cpL (cpH g 56 3) 61 8) 69 16) 0 16 0
theorem sp_w_image : fx W r 1 64 0 [2] [] g (fun k v g1 => k = 0 ∧ v = 0 ∧ g1 = cImg g) := by
  refine fx_la 0 1 (v := 2) (by decide +kernel) rfl (by decide +kernel) ?_
  refine fx_gp 2 0 11 450 4 (by decide +kernel) ?_
  refine fx_la 0 5 (v := 2) (by decide +kernel) rfl (by decide +kernel) ?_
  refine fx_gp 2 0 1 26 8 (by decide +kernel) ?_
  refine fx_c2 65 21 11 0 [] (by decide +kernel) (by decide) (by decide) (by decide) rfl (by first | decide | omega) ?_
  refine sp_cpH_house_image (fK0 ?_)
  refine fx_la 0 12 (v := 2) (by decide +kernel) rfl (by decide +kernel) ?_
  refine fx_gp 2 0 12 490 15 (by decide +kernel) ?_
  refine fx_la 0 16 (v := 2) (by decide +kernel) rfl (by decide +kernel) ?_
  refine fx_gp 2 0 2 66 19 (by decide +kernel) ?_
  refine fx_c2 66 21 22 0 [] (by decide +kernel) (by decide) (by decide) (by decide) rfl (by first | decide | omega) ?_
  refine sp_cpL_law_image (fK0 ?_)
  refine fx_la 0 23 (v := 2) (by decide +kernel) rfl (by decide +kernel) ?_
  refine fx_gp 2 0 13 554 26 (by decide +kernel) ?_
  refine fx_la 0 27 (v := 2) (by decide +kernel) rfl (by decide +kernel) ?_
  refine fx_gp 2 0 3 130 30 (by decide +kernel) ?_
  refine fx_c2 63 21 33 0 [] (by decide +kernel) (by decide) (by decide) (by decide) rfl (by first | decide | omega) ?_
  refine sp_cpT_table_image (fK0 ?_)
  refine fx_la 0 34 (v := 2) (by decide +kernel) rfl (by decide +kernel) ?_
  refine fx_ci (1) 35 (by decide +kernel) ?_
  refine fx_pb 2 0 15 38 (by decide +kernel) (by first | exact Or.inl rfl | exact Or.inr rfl | omega) ?_
  refine fx_vret (by decide +kernel) ?_
  exact ⟨rfl, rfl, rfl⟩
def HM_back (g : Nat → Nat → Int) (zv : Int) (g1 : Nat → Nat → Int) : Prop := (zv = 0 ∧ g 0 15 = 0 ∧ g1 = g) ∨ (zv = 1 ∧ g 0 15 = 1 ∧ g1 = cBck g)
theorem sp_w_back (hB : LB2 g) : fx W r 1 67 0 [2] [] g (fun k v g1 => k = 1 ∧ ∃ zv, v = fI zv ∧ fR zv ∧ HM_back g zv g1) := by
  have b8 := hB.1.2.2.2.2.2.2.2.1
  refine fx_la 0 1 (v := 2) (by decide +kernel) rfl (by decide +kernel) ?_
  refine fx_gi 2 0 15 4 (by decide +kernel) ?_
  refine fx_zne 9 7 (by decide +kernel) (by first | exact hg 0 15 (by decide) (by decide +kernel) (by decide +kernel) | (unfold fR; omega)) (fun h4 => ?_) (fun h4 => ?_)
  · refine fx_la 0 10 (v := 2) (by decide +kernel) rfl (by decide +kernel) ?_
    refine fx_gp 2 0 1 26 13 (by decide +kernel) ?_
    refine fx_la 0 14 (v := 2) (by decide +kernel) rfl (by decide +kernel) ?_
    refine fx_gp 2 0 11 450 17 (by decide +kernel) ?_
    refine fx_c2 65 21 20 0 [] (by decide +kernel) (by decide) (by decide) (by decide) rfl (by first | decide | omega) ?_
    refine sp_cpH_image_house (fK0 ?_)
    refine fx_la 0 21 (v := 2) (by decide +kernel) rfl (by decide +kernel) ?_
    refine fx_gp 2 0 2 66 24 (by decide +kernel) ?_
    refine fx_la 0 25 (v := 2) (by decide +kernel) rfl (by decide +kernel) ?_
    refine fx_gp 2 0 12 490 28 (by decide +kernel) ?_
    refine fx_c2 66 21 31 0 [] (by decide +kernel) (by decide) (by decide) (by decide) rfl (by first | decide | omega) ?_
    refine sp_cpL_image_law (fK0 ?_)
    refine fx_la 0 32 (v := 2) (by decide +kernel) rfl (by decide +kernel) ?_
    refine fx_gp 2 0 3 130 35 (by decide +kernel) ?_
    refine fx_la 0 36 (v := 2) (by decide +kernel) rfl (by decide +kernel) ?_
    refine fx_gp 2 0 13 554 39 (by decide +kernel) ?_
    refine fx_c2 63 21 42 0 [] (by decide +kernel) (by decide) (by decide) (by decide) rfl (by first | decide | omega) ?_
    refine sp_cpT_image_table (fK0 ?_)
    refine fx_la 0 43 (v := 2) (by decide +kernel) rfl (by decide +kernel) ?_
    refine fx_ci (0) 44 (by decide +kernel) ?_
    refine fx_pi 2 0 16 47 (by decide +kernel) (by unfold fR; omega) ?_
    refine fx_ci (1) 48 (by decide +kernel) ?_
    refine fx_retb (by decide +kernel) (by first | exact Or.inl rfl | exact Or.inr rfl | omega) ?_
    exact ⟨rfl, 1, rfl, by unfold fR; decide, Or.inr ⟨rfl, by omega, rfl⟩⟩
  · refine fx_ci (0) 8 (by decide +kernel) ?_
    refine fx_retb (by decide +kernel) (by first | exact Or.inl rfl | exact Or.inr rfl | omega) ?_
    exact ⟨rfl, 0, rfl, by unfold fR; decide, Or.inl ⟨rfl, by omega, rfl⟩⟩
theorem sp_r_image (hi : LI g) (hB : LB2 g) {g1 : Nat → Nat → Int} (h1 : g1 = cImg g) : fx W r 0 408 0 [1186, 7] [] g1 (fun k v g2 => k = 0 ∧ v = 0 ∧ LI g2) := by
  have ce : ∀ c j, ¬ (56 ≤ c ∧ c ≤ 56 + 4) → ¬ (61 ≤ c ∧ c ≤ 61 + 5) → ¬ (69 ≤ c ∧ c ≤ 69 + 5) → ¬ (c = 0 ∧ j = 15) → g1 c j = g c j := fun c j a1 a2 a3 a4 => by
    rw [h1]
    unfold cImg
    rw [fu_ne a4, cpT_ne (by omega), cpL_ne (by omega), cpH_ne (by omega)]
  refine sp_mimage (fun g2 e e1 e2 => ⟨rfl, rfl, ?_⟩)
  have k : ∀ c j, ¬ (56 ≤ c ∧ c ≤ 56 + 4) → ¬ (61 ≤ c ∧ c ≤ 61 + 5) → ¬ (69 ≤ c ∧ c ≤ 69 + 5) → ¬ (c = 0 ∧ j = 15) → c ≠ 150 → ¬ (c = 148 ∧ (j = 0 ∨ j = 3)) → g2 c j = g c j := fun c j a1 a2 a3 a4 a5 a6 => by
    rw [e c j a5 a6, ce c j a1 a2 a3 a4]
  have lo : ∀ c j, c < 148 → g2 c j = cImg g c j := fun c j hc => by rw [e c j (by omega) (by omega), h1]
  have em : g2 149 = g 149 := by funext j; exact k _ _ (by decide) (by decide) (by decide) (fun t => absurd t.1 (by decide)) (by decide) (fun t => absurd t.1 (by decide))
  have ek : ∀ j, j < 764 → g2 150 j = g 149 j := fun j hj => by
    rw [e2 j hj, ce _ _ (by decide) (by decide) (by decide) (fun t => absurd t.1 (by decide))]
  obtain ⟨a1, a2, a3, a4, a5, a6⟩ := hi
  have ei : g2 0 15 = 1 := by rw [lo _ _ (by decide)]; unfold cImg; rw [fu_eq]
  refine ⟨RMain_cg a1 (fun c j q => k c j (by unfold RK at q; omega) (by unfold RK at q; omega) (by unfold RK at q; omega) (by unfold RK at q; omega) (by unfold RK at q; omega) (by unfold RK at q; omega)), RBs_cg a2 (fun j => k _ _ (by decide) (by decide) (by decide) (fun t => absurd t.1 (by decide)) (by decide) (fun t => absurd t.1 (by decide))) (k _ _ (by decide) (by decide) (by decide) (by decide) (by decide) (by decide)) (by rw [em]; exact a2.1), ?_, fun _ => ⟨?_, ?_, ?_, ?_, ?_⟩, ?_, by rw [ei, e1]⟩
  · rw [em]
    exact RLw_eq a3 (k _ _ (by decide) (by decide) (by decide) (by decide) (by decide) (by decide)) (fun i j i1 i2 => k _ _ (by omega) (by omega) (by omega) (by omega) (by omega) (by omega)) (fun _ _ => rfl)
  · have q : RHf 56 g2 (g 149) := RHf_eq a1.2.1 (fun j j1 j2 => by rw [lo _ _ (by decide)]; unfold cImg; rw [fu_nc (by decide), cpT_ne (by decide), cpL_ne (by decide), cpH_f j1 j2]) (fun i j j1 j2 => by rw [lo _ _ (by omega)]; unfold cImg; rw [fu_nc (by omega), cpT_ne (by omega), cpL_ne (by omega), cpH_a j1 j2 (by decide)])
    refine RHf_t q ?_ (fun k hk => ek k (by unfold gHp at hk; omega))
    rw [lo _ _ (by decide)]
    unfold cImg
    rw [fu_nc (by decide), cpT_ne (by decide), cpL_ne (by decide), cpH_f (by decide) (by decide)]
    exact hB.1.2.1.2
  · exact RTb_cg a1.2.2.1 (fun j j1 j2 => by rw [lo _ _ (by decide)]; unfold cImg; rw [fu_nc (by decide), cpT_f j1 j2, cpL_ne (by decide), cpH_ne (by decide)]) (fun i j j1 j2 => by rw [lo _ _ (by omega)]; unfold cImg; rw [fu_nc (by omega), cpT_a j1 j2 (by decide), cpL_ne (by omega), cpH_ne (by omega)]) (fun k hk => ek k (by omega))
  · exact RIv_t a1.2.2.2.1 (fun k hk => ek k (by omega))
  · exact RBd_t a2.1 (fun k hk => ek k (by omega))
  · exact RLw_eq a3 (by rw [lo _ _ (by decide)]; unfold cImg; rw [fu_nc (by decide), cpT_ne (by decide), cpL_7, cpH_ne (by decide)]) (fun i j j1 j2 => by rw [lo _ _ (by omega)]; unfold cImg; rw [fu_nc (by omega), cpT_ne (by omega), cpL_a j1 j2 (by decide), cpH_ne (by omega)]) (fun k hk => ek k (by omega))
  · rw [k _ _ (by decide) (by decide) (by decide) (by decide) (by decide) (by decide), k 148 8 (by decide) (by decide) (by decide) (by decide) (by decide) (by decide)]
    exact a5
theorem sp_r_back {zv : Int} {g1 : Nat → Nat → Int} (hi : LI g) (hB : LB2 g) (hm : HM_back g zv g1) : fx W r 0 409 0 [1186, 7] [] g1 (PMb zv) := by
  have eI : g 0 15 = g 148 3 := hi.2.2.2.2.2
  have ce : ∀ c j, ¬ (3 ≤ c ∧ c ≤ 3 + 4) → ¬ (8 ≤ c ∧ c ≤ 8 + 5) → ¬ (16 ≤ c ∧ c ≤ 16 + 5) → ¬ (c = 0 ∧ j = 16) → g1 c j = g c j := fun c j a1 a2 a3 a4 => by
    rcases hm with ⟨-, -, rfl⟩ | ⟨-, -, rfl⟩
    · rfl
    · unfold cBck
      rw [fu_ne a4, cpT_ne (by omega), cpL_ne (by omega), cpH_ne (by omega)]
  have eh : g1 148 3 = g 148 3 := ce _ _ (by decide) (by decide) (by decide) (by decide)
  refine sp_mback (by rw [eh]; rcases hm with ⟨-, h, -⟩ | ⟨-, h, -⟩ <;> omega) (fun h => ?_) (fun h g2 e e1 e2 => ?_)
  · rw [eh] at h
    rcases hm with ⟨rfl, -, rfl⟩ | ⟨-, h2, -⟩
    · exact ⟨rfl, rfl, by unfold fR; decide, LI_th hi⟩
    · exact absurd h2 (by omega)
  · rw [eh] at h
    rcases hm with ⟨-, h2, -⟩ | ⟨rfl, hk, h1⟩
    · exact absurd h2 (by omega)
    · refine ⟨rfl, rfl, by unfold fR; decide, ?_⟩
      obtain ⟨a1, a2, a3, a4, a5, a6⟩ := hi
      obtain ⟨i1, i2, i3, i4, i5⟩ := a4 hk
      have k : ∀ c j, ¬ (3 ≤ c ∧ c ≤ 3 + 4) → ¬ (8 ≤ c ∧ c ≤ 8 + 5) → ¬ (16 ≤ c ∧ c ≤ 16 + 5) → ¬ (c = 0 ∧ j = 16) → c ≠ 149 → ¬ (c = 148 ∧ (j = 0 ∨ j = 6)) → g2 c j = g c j := fun c j a1 a2 a3 a4 a5 a6 => by
        rw [e c j a5 a6, ce c j a1 a2 a3 a4]
      have lo : ∀ c j, c < 148 → g2 c j = cBck g c j := fun c j hc => by rw [e c j (by omega) (by omega), h1]
      have ek : ∀ j, j < 764 → g2 149 j = g 150 j := fun j hj => by
        rw [e2 j hj, ce _ _ (by decide) (by decide) (by decide) (fun t => absurd t.1 (by decide))]
      refine ⟨⟨fun j hj => ?_, ?_, ?_, RIv_t i3 (fun k hk => ek k (by omega)), RPs_0 ?_ e1 ?_ ?_⟩, ⟨RBd_t i4 (fun k hk => ek k (by omega)), fun r hr => by rw [e1] at hr; omega⟩, ?_, ?_, ?_, ?_⟩
      · rw [k _ _ (by decide) (by decide) (by decide) (fun t => absurd t.1 (by decide)) (by decide) (fun t => absurd t.1 (by decide)), k 153 _ (by decide) (by decide) (by decide) (fun t => absurd t.1 (by decide)) (by decide) (fun t => absurd t.1 (by decide))]
        exact a1.1 j hj
      · have q : RHf 3 g2 (g 150) := RHf_eq i1 (fun j j1 j2 => by rw [lo _ _ (by decide)]; unfold cBck; rw [fu_nc (by decide), cpT_ne (by decide), cpL_ne (by decide), cpH_f j1 j2]) (fun i j j1 j2 => by rw [lo _ _ (by omega)]; unfold cBck; rw [fu_nc (by omega), cpT_ne (by omega), cpL_ne (by omega), cpH_a j1 j2 (by decide)])
        refine RHf_t q ?_ (fun k hk => ek k (by unfold gHp at hk; omega))
        rw [lo _ _ (by decide)]
        unfold cBck
        rw [fu_nc (by decide), cpT_ne (by decide), cpL_ne (by decide), cpH_f (by decide) (by decide)]
        exact hB.1.2.2.2.2.2.2.2.2.2
      · exact RTb_cg i2 (fun j j1 j2 => by rw [lo _ _ (by decide)]; unfold cBck; rw [fu_nc (by decide), cpT_f j1 j2, cpL_ne (by decide), cpH_ne (by decide)]) (fun i j j1 j2 => by rw [lo _ _ (by omega)]; unfold cBck; rw [fu_nc (by omega), cpT_a j1 j2 (by decide), cpL_ne (by omega), cpH_ne (by omega)]) (fun k hk => ek k (by omega))
      · rw [lo _ _ (by decide)]; unfold cBck; rw [fu_eq]
      · rw [k _ _ (by decide) (by decide) (by decide) (by decide) (by decide) (by decide)]; exact a1.2.2.2.2.2.2.2.1
      · rw [k _ _ (by decide) (by decide) (by decide) (by decide) (by decide) (by decide)]; exact a1.2.2.2.2.2.2.2.2.1
      · exact RLw_eq i5 (by rw [lo _ _ (by decide)]; unfold cBck; rw [fu_nc (by decide), cpT_ne (by decide), cpL_7, cpH_ne (by decide)]) (fun i j j1 j2 => by rw [lo _ _ (by omega)]; unfold cBck; rw [fu_nc (by omega), cpT_ne (by omega), cpL_a j1 j2 (by decide), cpH_ne (by omega)]) (fun k hk => ek k (by omega))
      · exact RImg_cg a4 (fun c j q => k c j (by omega) (by omega) (by omega) (by omega) (by omega) (by omega)) (k _ _ (by decide) (by decide) (by decide) (by decide) (by decide) (by decide))
      · rw [k _ _ (by decide) (by decide) (by decide) (by decide) (by decide) (by decide), k 148 8 (by decide) (by decide) (by decide) (by decide) (by decide) (by decide)]
        exact a5
      · rw [k _ _ (by decide) (by decide) (by decide) (by decide) (by decide) (by decide), k 148 3 (by decide) (by decide) (by decide) (by decide) (by decide) (by decide)]
        exact a6
end FIS
