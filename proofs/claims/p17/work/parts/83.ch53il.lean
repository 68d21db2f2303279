/-! fx: what holds at the law's head, of the whole state -/
/-- a place within its stretch -/
noncomputable def hsB (c j lo hi : Nat) : Bool := (Nat.blt c 160 && (Nat.blt j (Nat.div (ax_cl c).1 256) && fInt c j)) && Option.rec false (fun s => Nat.beq s.2.1 0 && (Nat.ble lo s.2.2.1 && Nat.ble s.2.2.2.1 hi)) (ax_sg (ax_cl c).2.2 (j % (ax_cl c).2.1) (j % (ax_cl c).2.1))
theorem Hs_c {h : sx_H} {g : Nat → Nat → Int} (q : ax_Hs h) (v : HV h g) (c j lo hi : Nat) (hk : hsB c j lo hi = true) : (lo : Int) - 2147483648 ≤ g c j ∧ g c j ≤ (hi : Int) - 2147483648 := by
  unfold hsB at hk
  obtain ⟨k1, k2⟩ := f_and hk
  cases hs : ax_sg (ax_cl c).2.2 (j % (ax_cl c).2.1) (j % (ax_cl c).2.1) with
  | none => rw [hs] at k2; cases k2
  | some s =>
    rw [hs] at k2
    have k2 : (Nat.beq s.2.1 0 && (Nat.ble lo s.2.2.1 && Nat.ble s.2.2.2.1 hi)) = true := k2
    obtain ⟨k3, k4⟩ := f_and k2
    obtain ⟨k4, k5⟩ := f_and k4
    have k4 : lo ≤ s.2.2.1 := sx_ble k4
    have k5 : s.2.2.2.1 ≤ hi := sx_ble k5
    have b := Hs_b q v c j ((s.2.2.1 : Int) - 2147483648) ((s.2.2.2.1 : Int) - 2147483648) k1 s hs (sx_beq k3) (by omega) (by omega)
    omega
theorem Hs_ca {h : sx_H} {g : Nat → Nat → Int} (q : ax_Hs h) (v : HV h g) (c lo hi : Nat) (n : Nat) (f : Nat → Nat) (hk : (List.range n).all (fun p => hsB c (f p) lo hi) = true) (p : Nat) (hp : p < n) : (lo : Int) - 2147483648 ≤ g c (f p) ∧ g c (f p) ≤ (hi : Int) - 2147483648 := Hs_c q v c (f p) lo hi (List.all_eq_true.mp hk p (List.mem_range.mpr hp))
/-- bounds that the stretches tell -/
def LB2 (g : Nat → Nat → Int) : Prop := ((0 ≤ g 3 4 ∧ g 3 4 ≤ 8) ∧ (0 ≤ g 3 5 ∧ g 3 5 ≤ 6) ∧ (0 ≤ g 0 17 ∧ g 0 17 < 12) ∧ (0 ≤ g 0 16 ∧ g 0 16 ≤ 12) ∧ (0 ≤ g 16 5 ∧ g 16 5 < 60) ∧ (0 ≤ g 16 6 ∧ g 16 6 ≤ 60) ∧ (0 ≤ g 1 1 ∧ g 1 1 ≤ 400) ∧ (0 ≤ g 0 15 ∧ g 0 15 ≤ 1) ∧ (0 ≤ g 56 5 ∧ g 56 5 ≤ 6)) ∧ ((0 ≤ g 148 6 ∧ g 148 6 ≤ 12) ∧ (0 ≤ g 149 3 ∧ g 149 3 ≤ 8) ∧ (0 ≤ g 149 4 ∧ g 149 4 ≤ 6) ∧ (0 ≤ g 149 9 ∧ g 149 9 ≤ 9999) ∧ (0 ≤ g 149 10 ∧ g 149 10 ≤ 60) ∧ (0 ≤ g 148 15 ∧ g 148 15 ≤ 1) ∧ (0 ≤ g 148 16 ∧ g 148 16 ≤ 1)) ∧ (∀ j : Nat, j < 400 → 0 ≤ g 2 j ∧ g 2 j ≤ 255) ∧ (∀ p : Nat, p < 8 → -1 ≤ g 17 p ∧ g 17 p ≤ 7) ∧ (∀ p : Nat, p < 8 → -1 ≤ g 149 (12 + 7 * p) ∧ g 149 (12 + 7 * p) ≤ 7) ∧ (∀ p : Nat, p < 8 → -1 ≤ g 149 (16 + 7 * p) ∧ g 149 (16 + 7 * p) ≤ 7) ∧ (∀ j : Nat, j < 8 → 0 ≤ g 149 (116 + j) ∧ g 149 (116 + j) ≤ 255) ∧ (∀ j : Nat, j < 48 → 0 ≤ g 6 j ∧ g 6 j ≤ 9)
theorem gHs_LB2 {h : sx_H} {g : Nat → Nat → Int} (q : ax_Hs h) (v : HV h g) : LB2 g := by
  have e : ∀ {a b : Int} {z : Int} {lo hi : Nat}, ((lo : Int) - 2147483648 ≤ z ∧ z ≤ (hi : Int) - 2147483648) → a = (lo : Int) - 2147483648 → b = (hi : Int) - 2147483648 → a ≤ z ∧ z ≤ b := fun h1 h2 h3 => by omega
  refine ⟨⟨?_, ?_, ?_, ?_, ?_, ?_, ?_, ?_, ?_⟩, ⟨?_, ?_, ?_, ?_, ?_, ?_, ?_⟩, fun j hj => ?_, fun p hp => ?_, fun p hp => ?_, fun p hp => ?_, fun j hj => ?_, fun j hj => ?_⟩
  · exact e (Hs_c q v 3 4 2147483648 2147483656 (by decide +kernel)) rfl rfl
  · exact e (Hs_c q v 3 5 2147483648 2147483654 (by decide +kernel)) rfl rfl
  · have := Hs_c q v 0 17 2147483648 2147483659 (by decide +kernel); omega
  · exact e (Hs_c q v 0 16 2147483648 2147483660 (by decide +kernel)) rfl rfl
  · have := Hs_c q v 16 5 2147483648 2147483707 (by decide +kernel); omega
  · exact e (Hs_c q v 16 6 2147483648 2147483708 (by decide +kernel)) rfl rfl
  · exact e (Hs_c q v 1 1 2147483648 2147484048 (by decide +kernel)) rfl rfl
  · exact e (Hs_c q v 0 15 2147483648 2147483649 (by decide +kernel)) rfl rfl
  · exact e (Hs_c q v 56 5 2147483648 2147483654 (by decide +kernel)) rfl rfl
  · exact e (Hs_c q v 148 6 2147483648 2147483660 (by decide +kernel)) rfl rfl
  · exact e (Hs_c q v 149 3 2147483648 2147483656 (by decide +kernel)) rfl rfl
  · exact e (Hs_c q v 149 4 2147483648 2147483654 (by decide +kernel)) rfl rfl
  · exact e (Hs_c q v 149 9 2147483648 2147493647 (by decide +kernel)) rfl rfl
  · exact e (Hs_c q v 149 10 2147483648 2147483708 (by decide +kernel)) rfl rfl
  · exact e (Hs_c q v 148 15 2147483648 2147483649 (by decide +kernel)) rfl rfl
  · exact e (Hs_c q v 148 16 2147483648 2147483649 (by decide +kernel)) rfl rfl
  · exact e (Hs_ca q v 2 2147483648 2147483903 400 (fun p => p) (by decide +kernel) j hj) rfl rfl
  · exact e (Hs_ca q v 17 2147483647 2147483655 8 (fun p => p) (by decide +kernel) p hp) rfl rfl
  · exact e (Hs_ca q v 149 2147483647 2147483655 8 (fun p => 12 + 7 * p) (by decide +kernel) p hp) rfl rfl
  · exact e (Hs_ca q v 149 2147483647 2147483655 8 (fun p => 16 + 7 * p) (by decide +kernel) p hp) rfl rfl
  · exact e (Hs_ca q v 149 2147483648 2147483903 8 (fun p => 116 + p) (by decide +kernel) j hj) rfl rfl
  · exact e (Hs_ca q v 6 2147483648 2147483657 48 (fun p => p) (by decide +kernel) j hj) rfl rfl
section FIL
variable {W : ax_W} {r d mi pc : Nat} {L S : List Nat} {g : Nat → Nat → Int} {Q : Nat → Nat → (Nat → Nat → Int) → Prop}
theorem fx_LB2 (hg : gHs g) (k : LB2 g → fx W r d mi pc L S g Q) : fx W r d mi pc L S g Q := fun D h cs ss hD v => k (gHs_LB2 (hg h v) v) D h cs ss hD v
end FIL
/-- bounds of a row that no stretch tells -/
def RBd (t : Nat → Int) : Prop := (1 ≤ t 7 ∧ t 7 ≤ 99) ∧ (0 ≤ t 8 ∧ t 8 ≤ 9999) ∧ (∀ p : Nat, p < 8 → (0 ≤ t (14 + 7 * p) ∧ t (14 + 7 * p) ≤ 99) ∧ (0 ≤ t (18 + 7 * p) ∧ t (18 + 7 * p) ≤ 99) ∧ (0 ≤ t (13 + 7 * p) ∧ t (13 + 7 * p) ≤ 20)) ∧ (0 ≤ t 0 ∧ t 0 ≤ 12)
theorem RBd_t {t t' : Nat → Int} (h : RBd t) (e : ∀ k, k < 364 → t' k = t k) : RBd t' := by
  obtain ⟨h1, h2, h3, h4⟩ := h
  refine ⟨by rw [e 7 (by decide)]; exact h1, by rw [e 8 (by decide)]; exact h2, fun p hp => ?_, by rw [e 0 (by decide)]; exact h4⟩
  rw [e _ (by omega), e _ (by omega), e _ (by omega)]
  exact h3 p hp
def RBs (g : Nat → Nat → Int) : Prop := RBd (g 149) ∧ ∀ r : Nat, (r : Int) < g 148 6 → RBd (aRow g r)
theorem RBs_rem {g g2 : Nat → Nat → Int} (h : RBs g) (ha : 0 ≤ g 148 6 ∧ g 148 6 ≤ 12) (e4 : ∀ j, g2 152 j = mActs g j) (e5 : g2 148 6 = (if g 148 6 = 12 then 12 else g 148 6 + 1)) (hb : RBd (g2 149)) : RBs g2 := by
  refine ⟨hb, fun r hr => ?_⟩
  rw [e5] at hr
  by_cases last : (g 148 6 = 12 ∧ r = 11) ∨ (g 148 6 ≠ 12 ∧ (r : Int) = g 148 6)
  · refine RBd_t h.1 (fun k hk => ?_)
    unfold aRow
    rw [e4]
    unfold mActs
    rcases last with ⟨l1, l2⟩ | ⟨l1, l2⟩
    · rw [if_pos l1, if_pos (by omega), show 364 * r + k - 4004 = k by omega]
    · rw [if_neg l1, if_pos (by omega), show 364 * r + k - 364 * (g 148 6).toNat = k by omega]
  · by_cases c12 : g 148 6 = 12
    · rw [if_pos c12] at hr
      refine RBd_t (h.2 (r + 1) (by omega)) (fun k hk => ?_)
      unfold aRow
      rw [e4]
      unfold mActs
      rw [if_pos c12, if_neg (by omega), if_pos (by omega), show 364 * r + k + 364 = 364 * (r + 1) + k by omega]
    · rw [if_neg c12] at hr
      refine RBd_t (h.2 r (by omega)) (fun k hk => ?_)
      unfold aRow
      rw [e4]
      unfold mActs
      rw [if_neg c12, if_neg (by omega)]
theorem RBs_und {g g2 : Nat → Nat → Int} (h : RBs g) (hc : 1 ≤ g 148 6) (e4 : ∀ j, g2 152 j = g 152 j) (e5 : g2 148 6 = g 148 6 - 1) (e6 : ∀ k, k < 364 → g2 149 k = g 152 (364 * (g 148 6 - 1).toNat + k)) : RBs g2 := by
  refine ⟨RBd_t (h.2 (g 148 6 - 1).toNat (by omega)) (fun k hk => e6 k hk), fun r hr => ?_⟩
  rw [e5] at hr
  exact RBd_t (h.2 r (by omega)) (fun k _ => e4 _)
theorem RBs_cg {g g2 : Nat → Nat → Int} (h : RBs g) (e4 : ∀ j, g2 152 j = g 152 j) (e5 : g2 148 6 = g 148 6) (hb : RBd (g2 149)) : RBs g2 := by
  refine ⟨hb, fun r hr => ?_⟩
  rw [e5] at hr
  exact RBd_t (h.2 r hr) (fun k _ => e4 _)
/-- the image, if one is kept -/
def RImg (g : Nat → Nat → Int) : Prop := g 0 15 = 1 → RHf 56 g (g 150) ∧ RTb 69 g (g 150) ∧ RIv (g 150) ∧ RBd (g 150) ∧ RLw 61 g (g 150)
theorem RImg_cg {g g2 : Nat → Nat → Int} (h : RImg g) (e : ∀ c j, (56 ≤ c ∧ c ≤ 66) ∨ (69 ≤ c ∧ c ≤ 74) ∨ c = 150 → g2 c j = g c j) (ei : g2 0 15 = g 0 15) : RImg g2 := by
  intro hk
  rw [ei] at hk
  obtain ⟨h1, h2, h3, h4, h5⟩ := h hk
  have ek : g2 150 = g 150 := by
    funext j
    exact e _ _ (by decide)
  rw [ek]
  exact ⟨RHf_eq h1 (fun j _ _ => e _ _ (by decide)) (fun i j i1 i2 => e _ _ (by omega)), RTb_cg h2 (fun j _ _ => e _ _ (by decide)) (fun i j i1 i2 => e _ _ (by omega)) (fun _ _ => rfl), h3, h4, RLw_eq h5 (e _ _ (by decide)) (fun i j i1 i2 => e _ _ (by omega)) (fun _ _ => rfl)⟩
/-- all that is kept alike, what the stretches tell apart -/
def LI (g : Nat → Nat → Int) : Prop := RMain g ∧ RBs g ∧ RLw 8 g (g 149) ∧ RImg g ∧ g 1 1 = g 148 8 ∧ g 0 15 = g 148 3
/-- places that acts leave as they are -/
def fPk (c j : Nat) : Prop := (c = 0 ∧ j = 15) ∨ (c = 1 ∧ j = 1) ∨ (c = 8 ∧ j = 7) ∨ (9 ≤ c ∧ c ≤ 13) ∨ (56 ≤ c ∧ c ≤ 66) ∨ (69 ≤ c ∧ c ≤ 74) ∨ c = 150 ∨ (c = 148 ∧ (j = 3 ∨ j = 8))
theorem LI_act {g g2 : Nat → Nat → Int} (h : LI g) (e : ∀ c j, fPk c j → g2 c j = g c j) (em : ∀ k, k = 1 ∨ k = 2 ∨ (364 ≤ k ∧ k < 764) → g2 149 k = g 149 k) (h1 : RMain g2) (h2 : RBs g2) : LI g2 := by
  obtain ⟨-, -, a3, a4, a5, a6⟩ := h
  refine ⟨h1, h2, RLw_eq a3 (e _ _ (by unfold fPk; decide)) (fun i j i1 i2 => e _ _ (by unfold fPk; omega)) em, RImg_cg a4 (fun c j q => e _ _ (by unfold fPk; omega)) (e _ _ (by unfold fPk; decide)), ?_, ?_⟩
  · rw [e _ _ (by unfold fPk; decide), e 148 8 (by unfold fPk; decide)]; exact a5
  · rw [e _ _ (by unfold fPk; decide), e 148 3 (by unfold fPk; decide)]; exact a6
/-- an act on both sides, with asking and telling beside it -/
theorem RMain_act2 {g g2 : Nat → Nat → Int} {i : Nat} (h : RMain g) (hd : g 3 5 ≤ 6) (hi : i < 12) (hi2 : i = ((g 0 17).toNat + 1) % 12)
    (c1 : ∀ c j, (c = 2 ∨ (3 ≤ c ∧ c ≤ 7) ∨ (76 ≤ c ∧ c ≤ 147) ∨ (c = 0 ∧ (j = 17 ∨ j = 16))) → g2 c j = cRem g i c j) (m1 : ∀ c j, (c = 153 ∨ c = 152 ∨ (c = 148 ∧ j = 6)) → g2 c j = mRem g c j) (hp : ∀ k, gHp k → g2 149 k = g 149 k)
    (hT : RTb 16 g2 (g2 149)) (hI : RIv (g2 149)) : RMain g2 := by
  obtain ⟨a1, a2, a3, a4, a5⟩ := h
  have nr : ∀ c j, (c = 2 ∨ (3 ≤ c ∧ c ≤ 7)) → g2 c j = g c j := fun c j h1 => by
    rw [c1 c j (by omega), cRem_ne hi (by omega) (Or.inl (by omega))]
  refine ⟨fun j hj => ?_, ?_, hT, hI, ?_⟩
  · rw [nr _ _ (Or.inl rfl), m1 _ _ (Or.inl rfl), mRem_ne (by decide) (fun t => absurd t.1 (by decide))]
    exact a1 j hj
  · have q : RHf 3 g2 (g 149) := RHf_eq a2 (fun j _ _ => nr _ _ (by decide)) (fun k j k1 k2 => nr _ _ (by omega))
    exact RHf_t q (by rw [nr _ _ (by decide)]; exact hd) hp
  · refine RPs_rem a5 a3.1 a3.2 a4 hi2 (fun c j h1 h2 => c1 c j (by omega)) ?_ ?_ (fun j => ?_) ?_ hp
    · rw [c1 _ _ (by omega)]
      unfold cRem
      rw [fu_nj (by decide), cpT_ne (by omega), fu_eq]
    · rw [c1 _ _ (by omega)]
      unfold cRem
      rw [fu_eq]
    · rw [m1 _ _ (by omega)]
      unfold mRem
      rw [if_pos rfl]
    · rw [m1 _ _ (by omega)]
      unfold mRem
      rw [if_neg (by decide), if_pos ⟨rfl, rfl⟩]
/-- bounds for the acts -/
theorem LI_mBd {g : Nat → Nat → Int} (h : LI g) (b : LB2 g) : mBd g := by
  obtain ⟨⟨-, -, -, -, -, -, -, -, -⟩, ⟨b1, b2, -, -, b5, -⟩, -⟩ := b
  obtain ⟨d1, d2, d3, -⟩ := h.2.1.1
  exact ⟨b2, b1, d2, b5, fun p hp => (d3 p hp).1⟩
theorem LI_cBd {g : Nat → Nat → Int} (h : LI g) (b : LB2 g) : cBd g := by
  obtain ⟨⟨a1, a2, a3, a4, a5, a6, -, -, -⟩, ⟨-, -, -, b4, -, -, -⟩, -, bp, -⟩ := b
  obtain ⟨d1, d2, d3, -⟩ := h.2.1.1
  have hH := h.1.2.1
  have hT := h.1.2.2.1.1
  refine ⟨a1, a3, a4, a5, a6, ?_, ?_, fun p hp => ?_, bp⟩
  · rw [show g 16 9 = g 149 9 from hT.2.2.2.2.2.2.1]; exact b4
  · rw [show g 16 8 = g 149 8 from hT.2.2.2.2.2.1]; exact d2
  · rw [show g 4 p = g 149 (14 + 7 * p) from hH.2.2.2.2.2.2.1 p hp]; exact (d3 p hp).1
theorem LI_NI {g : Nat → Nat → Int} (h : LI g) (b : LB2 g) : NI (g 149) := by
  obtain ⟨⟨-, a2, -, -, -, -, -, -, -⟩, ⟨b1, b2, b3, b4, b5, -⟩, -, -, bp, -, br, be⟩ := b
  obtain ⟨d1, d2, d3, -⟩ := h.2.1.1
  have hH := h.1.2.1
  refine ⟨⟨b2, b3, d1, b4, b5, bp, fun p hp => (d3 p hp).2.1, br, fun j hj => ?_⟩, h.1.2.2.2.1⟩
  have e4 : g 3 5 = g 149 4 := hH.2.1
  have e := hH.2.2.2.2.2.2.2.2.1 j (by show (j : Int) < 8 * g 3 5; rw [e4]; exact hj)
  rw [← e]
  exact be j (by omega)
