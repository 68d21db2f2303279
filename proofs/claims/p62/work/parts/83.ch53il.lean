/-! joined: 83.ch53il 83.ch54im 83.ch55in 83.ch56io 83.ch57ip 83.ch58iq 83.ch59ir -/
section
/-! fx: what holds at the law's head, of the whole state -/
/-- a place within its stretch -/
noncomputable def hsB (c j lo hi : Nat) : Bool := (Nat.blt c 160 && (Nat.blt j (Nat.div (ax_cl c).1 256) && fInt c j)) && Option.rec false (fun s => Nat.beq s.2.1 0 && (Nat.ble lo s.2.2.1 && Nat.ble s.2.2.2.1 hi)) (ax_sg (ax_cl c).2.2 (j % (ax_cl c).2.1) (j % (ax_cl c).2.1))
theorem Hs_c {h : sx_H} {g : Nat → Nat → Int} (q : ax_Hs h) (v : HV h g) (c j lo hi : Nat) (hk : hsB c j lo hi = true) : (lo : Int) - 2147483648 ≤ g c j ∧ g c j ≤ (hi : Int) - 2147483648 := by
  unfold hsB at hk
  obtain ⟨k1, k2⟩ := f_and hk
  cases hs : ax_sg (ax_cl c).2.2 (j % (ax_cl c).2.1) (j % (ax_cl c).2.1) with
  | none => rw [hs] at k2; cases k2
  | some s =>
    rw [hs] at k2
    have k2 : (Nat.beq s.2.1 0 && (Nat.ble lo s.2.2.1 && Nat.ble s.2.2.2.1 hi)) = true := k2
    obtain ⟨k3, k4⟩ := f_and k2
    obtain ⟨k4, k5⟩ := f_and k4
    have k4 : lo ≤ s.2.2.1 := sx_ble k4
    have k5 : s.2.2.2.1 ≤ hi := sx_ble k5
    have b := Hs_b q v c j ((s.2.2.1 : Int) - 2147483648) ((s.2.2.2.1 : Int) - 2147483648) k1 s hs (sx_beq k3) (by omega) (by omega)
    omega
theorem Hs_ca {h : sx_H} {g : Nat → Nat → Int} (q : ax_Hs h) (v : HV h g) (c lo hi : Nat) (n : Nat) (f : Nat → Nat) (hk : (List.range n).all (fun p => hsB c (f p) lo hi) = true) (p : Nat) (hp : p < n) : (lo : Int) - 2147483648 ≤ g c (f p) ∧ g c (f p) ≤ (hi : Int) - 2147483648 := Hs_c q v c (f p) lo hi (List.all_eq_true.mp hk p (List.mem_range.mpr hp))
/-- bounds that the stretches tell -/
def LB2 (g : Nat → Nat → Int) : Prop := ((0 ≤ g 3 4 ∧ g 3 4 ≤ 8) ∧ (0 ≤ g 3 5 ∧ g 3 5 ≤ 6) ∧ (0 ≤ g 0 17 ∧ g 0 17 < 12) ∧ (0 ≤ g 0 16 ∧ g 0 16 ≤ 12) ∧ (0 ≤ g 16 5 ∧ g 16 5 < 60) ∧ (0 ≤ g 16 6 ∧ g 16 6 ≤ 60) ∧ (0 ≤ g 1 1 ∧ g 1 1 ≤ 400) ∧ (0 ≤ g 0 15 ∧ g 0 15 ≤ 1) ∧ (0 ≤ g 56 5 ∧ g 56 5 ≤ 6)) ∧ ((0 ≤ g 148 6 ∧ g 148 6 ≤ 12) ∧ (0 ≤ g 149 3 ∧ g 149 3 ≤ 8) ∧ (0 ≤ g 149 4 ∧ g 149 4 ≤ 6) ∧ (0 ≤ g 149 9 ∧ g 149 9 ≤ 9999) ∧ (0 ≤ g 149 10 ∧ g 149 10 ≤ 60) ∧ (0 ≤ g 148 15 ∧ g 148 15 ≤ 1) ∧ (0 ≤ g 148 16 ∧ g 148 16 ≤ 1)) ∧ (∀ j : Nat, j < 400 → 0 ≤ g 2 j ∧ g 2 j ≤ 255) ∧ (∀ p : Nat, p < 8 → -1 ≤ g 17 p ∧ g 17 p ≤ 7) ∧ (∀ p : Nat, p < 8 → -1 ≤ g 149 (12 + 7 * p) ∧ g 149 (12 + 7 * p) ≤ 7) ∧ (∀ p : Nat, p < 8 → -1 ≤ g 149 (16 + 7 * p) ∧ g 149 (16 + 7 * p) ≤ 7) ∧ (∀ j : Nat, j < 8 → 0 ≤ g 149 (116 + j) ∧ g 149 (116 + j) ≤ 255) ∧ (∀ j : Nat, j < 48 → 0 ≤ g 6 j ∧ g 6 j ≤ 9)
theorem gHs_LB2 {h : sx_H} {g : Nat → Nat → Int} (q : ax_Hs h) (v : HV h g) : LB2 g := by
  have e : ∀ {a b : Int} {z : Int} {lo hi : Nat}, ((lo : Int) - 2147483648 ≤ z ∧ z ≤ (hi : Int) - 2147483648) → a = (lo : Int) - 2147483648 → b = (hi : Int) - 2147483648 → a ≤ z ∧ z ≤ b := fun h1 h2 h3 => by omega
  refine ⟨⟨?_, ?_, ?_, ?_, ?_, ?_, ?_, ?_, ?_⟩, ⟨?_, ?_, ?_, ?_, ?_, ?_, ?_⟩, fun j hj => ?_, fun p hp => ?_, fun p hp => ?_, fun p hp => ?_, fun j hj => ?_, fun j hj => ?_⟩
  · exact e (Hs_c q v 3 4 2147483648 2147483656 (by decide +kernel)) rfl rfl
  · exact e (Hs_c q v 3 5 2147483648 2147483654 (by decide +kernel)) rfl rfl
  · have := Hs_c q v 0 17 2147483648 2147483659 (by decide +kernel); omega
  · exact e (Hs_c q v 0 16 2147483648 2147483660 (by decide +kernel)) rfl rfl
  · have := Hs_c q v 16 5 2147483648 2147483707 (by decide +kernel); omega
  · exact e (Hs_c q v 16 6 2147483648 2147483708 (by decide +kernel)) rfl rfl
  · exact e (Hs_c q v 1 1 2147483648 2147484048 (by decide +kernel)) rfl rfl
  · exact e (Hs_c q v 0 15 2147483648 2147483649 (by decide +kernel)) rfl rfl
  · exact e (Hs_c q v 56 5 2147483648 2147483654 (by decide +kernel)) rfl rfl
  · exact e (Hs_c q v 148 6 2147483648 2147483660 (by decide +kernel)) rfl rfl
  · exact e (Hs_c q v 149 3 2147483648 2147483656 (by decide +kernel)) rfl rfl
  · exact e (Hs_c q v 149 4 2147483648 2147483654 (by decide +kernel)) rfl rfl
  · exact e (Hs_c q v 149 9 2147483648 2147493647 (by decide +kernel)) rfl rfl
  · exact e (Hs_c q v 149 10 2147483648 2147483708 (by decide +kernel)) rfl rfl
  · exact e (Hs_c q v 148 15 2147483648 2147483649 (by decide +kernel)) rfl rfl
  · exact e (Hs_c q v 148 16 2147483648 2147483649 (by decide +kernel)) rfl rfl
  · exact e (Hs_ca q v 2 2147483648 2147483903 400 (fun p => p) (by decide +kernel) j hj) rfl rfl
  · exact e (Hs_ca q v 17 2147483647 2147483655 8 (fun p => p) (by decide +kernel) p hp) rfl rfl
  · exact e (Hs_ca q v 149 2147483647 2147483655 8 (fun p => 12 + 7 * p) (by decide +kernel) p hp) rfl rfl
  · exact e (Hs_ca q v 149 2147483647 2147483655 8 (fun p => 16 + 7 * p) (by decide +kernel) p hp) rfl rfl
  · exact e (Hs_ca q v 149 2147483648 2147483903 8 (fun p => 116 + p) (by decide +kernel) j hj) rfl rfl
  · exact e (Hs_ca q v 6 2147483648 2147483657 48 (fun p => p) (by decide +kernel) j hj) rfl rfl
section FIL
variable {W : ax_W} {r d mi pc : Nat} {L S : List Nat} {g : Nat → Nat → Int} {Q : Nat → Nat → (Nat → Nat → Int) → Prop}
theorem fx_LB2 (hg : gHs g) (k : LB2 g → fx W r d mi pc L S g Q) : fx W r d mi pc L S g Q := fun D h cs ss hD v => k (gHs_LB2 (hg h v) v) D h cs ss hD v
end FIL
/-- bounds of a row that no stretch tells -/
def RBd (t : Nat → Int) : Prop := (1 ≤ t 7 ∧ t 7 ≤ 99) ∧ (0 ≤ t 8 ∧ t 8 ≤ 9999) ∧ (∀ p : Nat, p < 8 → (0 ≤ t (14 + 7 * p) ∧ t (14 + 7 * p) ≤ 99) ∧ (0 ≤ t (18 + 7 * p) ∧ t (18 + 7 * p) ≤ 99) ∧ (0 ≤ t (13 + 7 * p) ∧ t (13 + 7 * p) ≤ 20)) ∧ (0 ≤ t 0 ∧ t 0 ≤ 12)
theorem RBd_t {t t' : Nat → Int} (h : RBd t) (e : ∀ k, k < 364 → t' k = t k) : RBd t' := by
  obtain ⟨h1, h2, h3, h4⟩ := h
  refine ⟨by rw [e 7 (by decide)]; exact h1, by rw [e 8 (by decide)]; exact h2, fun p hp => ?_, by rw [e 0 (by decide)]; exact h4⟩
  rw [e _ (by omega), e _ (by omega), e _ (by omega)]
  exact h3 p hp
def RBs (g : Nat → Nat → Int) : Prop := RBd (g 149) ∧ ∀ r : Nat, (r : Int) < g 148 6 → RBd (aRow g r)
theorem RBs_rem {g g2 : Nat → Nat → Int} (h : RBs g) (ha : 0 ≤ g 148 6 ∧ g 148 6 ≤ 12) (e4 : ∀ j, g2 152 j = mActs g j) (e5 : g2 148 6 = (if g 148 6 = 12 then 12 else g 148 6 + 1)) (hb : RBd (g2 149)) : RBs g2 := by
  refine ⟨hb, fun r hr => ?_⟩
  rw [e5] at hr
  by_cases last : (g 148 6 = 12 ∧ r = 11) ∨ (g 148 6 ≠ 12 ∧ (r : Int) = g 148 6)
  · refine RBd_t h.1 (fun k hk => ?_)
    unfold aRow
    rw [e4]
    unfold mActs
    rcases last with ⟨l1, l2⟩ | ⟨l1, l2⟩
    · rw [if_pos l1, if_pos (by omega), show 364 * r + k - 4004 = k by omega]
    · rw [if_neg l1, if_pos (by omega), show 364 * r + k - 364 * (g 148 6).toNat = k by omega]
  · by_cases c12 : g 148 6 = 12
    · rw [if_pos c12] at hr
      refine RBd_t (h.2 (r + 1) (by omega)) (fun k hk => ?_)
      unfold aRow
      rw [e4]
      unfold mActs
      rw [if_pos c12, if_neg (by omega), if_pos (by omega), show 364 * r + k + 364 = 364 * (r + 1) + k by omega]
    · rw [if_neg c12] at hr
      refine RBd_t (h.2 r (by omega)) (fun k hk => ?_)
      unfold aRow
      rw [e4]
      unfold mActs
      rw [if_neg c12, if_neg (by omega)]
theorem RBs_und {g g2 : Nat → Nat → Int} (h : RBs g) (hc : 1 ≤ g 148 6) (e4 : ∀ j, g2 152 j = g 152 j) (e5 : g2 148 6 = g 148 6 - 1) (e6 : ∀ k, k < 364 → g2 149 k = g 152 (364 * (g 148 6 - 1).toNat + k)) : RBs g2 := by
  refine ⟨RBd_t (h.2 (g 148 6 - 1).toNat (by omega)) (fun k hk => e6 k hk), fun r hr => ?_⟩
  rw [e5] at hr
  exact RBd_t (h.2 r (by omega)) (fun k _ => e4 _)
theorem RBs_cg {g g2 : Nat → Nat → Int} (h : RBs g) (e4 : ∀ j, g2 152 j = g 152 j) (e5 : g2 148 6 = g 148 6) (hb : RBd (g2 149)) : RBs g2 := by
  refine ⟨hb, fun r hr => ?_⟩
  rw [e5] at hr
  exact RBd_t (h.2 r hr) (fun k _ => e4 _)
/-- the image, if one is kept -/
def RImg (g : Nat → Nat → Int) : Prop := g 0 15 = 1 → RHf 56 g (g 150) ∧ RTb 69 g (g 150) ∧ RIv (g 150) ∧ RBd (g 150) ∧ RLw 61 g (g 150)
theorem RImg_cg {g g2 : Nat → Nat → Int} (h : RImg g) (e : ∀ c j, (56 ≤ c ∧ c ≤ 66) ∨ (69 ≤ c ∧ c ≤ 74) ∨ c = 150 → g2 c j = g c j) (ei : g2 0 15 = g 0 15) : RImg g2 := by
  intro hk
  rw [ei] at hk
  obtain ⟨h1, h2, h3, h4, h5⟩ := h hk
  have ek : g2 150 = g 150 := by
    funext j
    exact e _ _ (by decide)
  rw [ek]
  exact ⟨RHf_eq h1 (fun j _ _ => e _ _ (by decide)) (fun i j i1 i2 => e _ _ (by omega)), RTb_cg h2 (fun j _ _ => e _ _ (by decide)) (fun i j i1 i2 => e _ _ (by omega)) (fun _ _ => rfl), h3, h4, RLw_eq h5 (e _ _ (by decide)) (fun i j i1 i2 => e _ _ (by omega)) (fun _ _ => rfl)⟩
/-- all that is kept alike, what the stretches tell apart -/
def LI (g : Nat → Nat → Int) : Prop := RMain g ∧ RBs g ∧ RLw 8 g (g 149) ∧ RImg g ∧ g 1 1 = g 148 8 ∧ g 0 15 = g 148 3
/-- places that acts leave as they are -/
def fPk (c j : Nat) : Prop := (c = 0 ∧ j = 15) ∨ (c = 1 ∧ j = 1) ∨ (c = 8 ∧ j = 7) ∨ (9 ≤ c ∧ c ≤ 13) ∨ (56 ≤ c ∧ c ≤ 66) ∨ (69 ≤ c ∧ c ≤ 74) ∨ c = 150 ∨ (c = 148 ∧ (j = 3 ∨ j = 8))
theorem LI_act {g g2 : Nat → Nat → Int} (h : LI g) (e : ∀ c j, fPk c j → g2 c j = g c j) (em : ∀ k, k = 1 ∨ k = 2 ∨ (364 ≤ k ∧ k < 764) → g2 149 k = g 149 k) (h1 : RMain g2) (h2 : RBs g2) : LI g2 := by
  obtain ⟨-, -, a3, a4, a5, a6⟩ := h
  refine ⟨h1, h2, RLw_eq a3 (e _ _ (by unfold fPk; decide)) (fun i j i1 i2 => e _ _ (by unfold fPk; omega)) em, RImg_cg a4 (fun c j q => e _ _ (by unfold fPk; omega)) (e _ _ (by unfold fPk; decide)), ?_, ?_⟩
  · rw [e _ _ (by unfold fPk; decide), e 148 8 (by unfold fPk; decide)]; exact a5
  · rw [e _ _ (by unfold fPk; decide), e 148 3 (by unfold fPk; decide)]; exact a6
/-- an act on both sides, with asking and telling beside it -/
theorem RMain_act2 {g g2 : Nat → Nat → Int} {i : Nat} (h : RMain g) (hd : g 3 5 ≤ 6) (hi : i < 12) (hi2 : i = ((g 0 17).toNat + 1) % 12)
    (c1 : ∀ c j, (c = 2 ∨ (3 ≤ c ∧ c ≤ 7) ∨ (76 ≤ c ∧ c ≤ 147) ∨ (c = 0 ∧ (j = 17 ∨ j = 16))) → g2 c j = cRem g i c j) (m1 : ∀ c j, (c = 153 ∨ c = 152 ∨ (c = 148 ∧ j = 6)) → g2 c j = mRem g c j) (hp : ∀ k, gHp k → g2 149 k = g 149 k)
    (hT : RTb 16 g2 (g2 149)) (hI : RIv (g2 149)) : RMain g2 := by
  obtain ⟨a1, a2, a3, a4, a5⟩ := h
  have nr : ∀ c j, (c = 2 ∨ (3 ≤ c ∧ c ≤ 7)) → g2 c j = g c j := fun c j h1 => by
    rw [c1 c j (by omega), cRem_ne hi (by omega) (Or.inl (by omega))]
  refine ⟨fun j hj => ?_, ?_, hT, hI, ?_⟩
  · rw [nr _ _ (Or.inl rfl), m1 _ _ (Or.inl rfl), mRem_ne (by decide) (fun t => absurd t.1 (by decide))]
    exact a1 j hj
  · have q : RHf 3 g2 (g 149) := RHf_eq a2 (fun j _ _ => nr _ _ (by decide)) (fun k j k1 k2 => nr _ _ (by omega))
    exact RHf_t q (by rw [nr _ _ (by decide)]; exact hd) hp
  · refine RPs_rem a5 a3.1 a3.2 a4 hi2 (fun c j h1 h2 => c1 c j (by omega)) ?_ ?_ (fun j => ?_) ?_ hp
    · rw [c1 _ _ (by omega)]
      unfold cRem
      rw [fu_nj (by decide), cpT_ne (by omega), fu_eq]
    · rw [c1 _ _ (by omega)]
      unfold cRem
      rw [fu_eq]
    · rw [m1 _ _ (by omega)]
      unfold mRem
      rw [if_pos rfl]
    · rw [m1 _ _ (by omega)]
      unfold mRem
      rw [if_neg (by decide), if_pos ⟨rfl, rfl⟩]
/-- bounds for the acts -/
theorem LI_mBd {g : Nat → Nat → Int} (h : LI g) (b : LB2 g) : mBd g := by
  obtain ⟨⟨-, -, -, -, -, -, -, -, -⟩, ⟨b1, b2, -, -, b5, -⟩, -⟩ := b
  obtain ⟨d1, d2, d3, -⟩ := h.2.1.1
  exact ⟨b2, b1, d2, b5, fun p hp => (d3 p hp).1⟩
theorem LI_cBd {g : Nat → Nat → Int} (h : LI g) (b : LB2 g) : cBd g := by
  obtain ⟨⟨a1, a2, a3, a4, a5, a6, -, -, -⟩, ⟨-, -, -, b4, -, -, -⟩, -, bp, -⟩ := b
  obtain ⟨d1, d2, d3, -⟩ := h.2.1.1
  have hH := h.1.2.1
  have hT := h.1.2.2.1.1
  refine ⟨a1, a3, a4, a5, a6, ?_, ?_, fun p hp => ?_, bp⟩
  · rw [show g 16 9 = g 149 9 from hT.2.2.2.2.2.2.1]; exact b4
  · rw [show g 16 8 = g 149 8 from hT.2.2.2.2.2.1]; exact d2
  · rw [show g 4 p = g 149 (14 + 7 * p) from hH.2.2.2.2.2.2.1 p hp]; exact (d3 p hp).1
theorem LI_NI {g : Nat → Nat → Int} (h : LI g) (b : LB2 g) : NI (g 149) := by
  obtain ⟨⟨-, a2, -, -, -, -, -, -, -⟩, ⟨b1, b2, b3, b4, b5, -⟩, -, -, bp, -, br, be⟩ := b
  obtain ⟨d1, d2, d3, -⟩ := h.2.1.1
  have hH := h.1.2.1
  refine ⟨⟨b2, b3, d1, b4, b5, bp, fun p hp => (d3 p hp).2.1, br, fun j hj => ?_⟩, h.1.2.2.2.1⟩
  have e4 : g 3 5 = g 149 4 := hH.2.1
  have e := hH.2.2.2.2.2.2.2.2.1 j (by show (j : Int) < 8 * g 3 5; rw [e4]; exact hj)
  rw [← e]
  exact be j (by omega)
end
section
/-! fx: serving, nights, taking off: both sides -/
def tOff (t : Nat → Int) (p : Nat) : Nat → Int := tNote (tIron (tU t (12 + 7 * p + 5) 1) (t (14 + 7 * p))) p 1 (t (12 + 7 * p))
section FIM
variable {W : ax_W} {r : Nat} {g : Nat → Nat → Int} {Q : Nat → Nat → (Nat → Nat → Int) → Prop} {segs : List (List Int × Int × Int)}
theorem sp_misDishE {v : Int} (hv : fR v) (h0 : 0 ≤ g 149 4) (h1 : g 149 4 ≤ 6) (k1 : 0 ≤ v ∧ v < g 149 4 → Q 1 (fI 1) g) (k2 : ¬ (0 ≤ v ∧ v < g 149 4) → Q 1 (fI 0) g) : fx W r 1 311 0 [1186, fI v] [] g Q := by
  refine fx_li 1 1 (by decide +kernel) rfl ?_
  refine fx_ci (0) 2 (by decide +kernel) ?_
  refine fx_la 0 3 (v := 1186) (by decide +kernel) rfl (by decide +kernel) ?_
  refine fx_gp 1186 148 1 1194 6 (by decide +kernel) ?_
  refine fx_ci (4) 7 (by decide +kernel) ?_
  refine fx_al 1194 149 764 8 (by decide +kernel) rfl (by omega) (by omega) rfl ?_
  try simp only [fu_app, fcy_app, Nat.reduceEqDiff, and_true, and_false, false_and, true_and, if_true, if_false, ite_true, ite_false, reduceIte, Int.reduceToNat, fx_simp0]
  refine fx_ci (1) 9 (by decide +kernel) ?_
  refine fx_sub 10 (by decide +kernel) rfl ?_
  refine fx_c3 265 22 13 0 [] (f_q22 (by decide +kernel)) (by decide) (fI_n4 _) (fI_n4 _) (fI_n4 _) rfl (by first | decide | omega) ?_
  refine sp_isIn hv (by unfold fR; omega) (by unfold fR; omega) (fun t => fK1 ?_) (fun t => fK1 ?_)
  · refine fx_retb (by decide +kernel) (by first | exact Or.inl rfl | exact Or.inr rfl | omega) ?_
    exact k1 (by omega)
  · refine fx_retb (by decide +kernel) (by first | exact Or.inl rfl | exact Or.inr rfl | omega) ?_
    exact k2 (by omega)
theorem sp_mserve {a : Int} (ha : fR a) (hA : 0 ≤ g 148 6 ∧ g 148 6 ≤ 12) (h : NI (g 149)) (hw : LwR (g 149) segs) (k1 : ¬ (0 ≤ a ∧ a < g 149 4) → Q 1 (fI 0) (fu g 148 0 1))
    (k3 : 0 ≤ a ∧ a < g 149 4 → ∀ G', rN (mRem (fu g 148 0 0)) G' → Q 1 (fI (niN segs a (niW true (g 149)))) (frow G' (niT segs a true (g 149)))) : fx W r 39 324 0 [1186, fI a] [] g Q := by
  have b4 := h.1.2.1
  refine fx_la 0 1 (v := 1186) (by decide +kernel) rfl (by decide +kernel) ?_
  refine fx_la 0 2 (v := 1186) (by decide +kernel) rfl (by decide +kernel) ?_
  refine fx_li 1 3 (by decide +kernel) rfl ?_
  refine fx_c2 311 21 6 1 [] (by decide +kernel) (by decide) (by decide) (fI_n4 _) rfl (by first | decide | omega) ?_
  refine sp_misDishE ha b4.1 b4.2 (fun t => fK1 ?_) (fun t => fK1 ?_)
  · refine fx_zne 13 9 (by decide +kernel) (by unfold fR; omega) (fun _ => ?_) (fun hc => absurd hc (by decide))
    refine fx_ci (0) 14 (by decide +kernel) ?_
    refine fx_pi 1186 148 0 17 (by decide +kernel) (by unfold fR; omega) ?_
    refine fx_la 0 18 (v := 1186) (by decide +kernel) rfl (by decide +kernel) ?_
    refine fx_gi 1186 148 0 21 (by decide +kernel) ?_
    try simp only [fu_app, fcy_app, Nat.reduceEqDiff, and_true, and_false, false_and, true_and, if_true, if_false, ite_true, ite_false, reduceIte, Int.reduceToNat, fx_simp0]
    refine fx_zle 26 24 (by decide +kernel) (by unfold fR; omega) (fun h21 => ?_) (fun h21 => ?_)
    · refine fx_la 0 27 (v := 1186) (by decide +kernel) rfl (by decide +kernel) ?_
      refine fx_c1 319 21 30 0 [7] (by decide +kernel) (by decide) rfl (by first | decide | omega) ?_
      refine sp_mrem (by rw [fu_nj (by decide)]; exact hA.1) (by rw [fu_nj (by decide)]; exact hA.2) (fK0 ?_)
      rw [mRem_row]
      refine fx_la 0 31 (v := 1186) (by decide +kernel) rfl (by decide +kernel) ?_
      refine fx_li 1 32 (by decide +kernel) rfl ?_
      refine fx_ci (1) 33 (by decide +kernel) ?_
      refine fx_c3 325 21 36 38 [7, 7] (by decide +kernel) (by decide) (by decide) (fI_n4 _) (fI_n4 _) rfl (by first | decide | omega) ?_
      refine sp_mnight (dr := true) h hw (Or.inr t) (fun G' x => fK1 ?_)
      refine fx_ret (by decide +kernel) ?_
      exact k3 t G' x
    · refine fx_ci (0) 25 (by decide +kernel) ?_
      refine fx_ret (by decide +kernel) ?_
      exfalso; omega
  · refine fx_zne 13 9 (by decide +kernel) (by unfold fR; omega) (fun hc => absurd hc (by decide)) (fun _ => ?_)
    refine fx_ci (1) 10 (by decide +kernel) ?_
    refine fx_go 14 (by decide +kernel) ?_
    refine fx_pi 1186 148 0 17 (by decide +kernel) (by unfold fR; omega) ?_
    refine fx_la 0 18 (v := 1186) (by decide +kernel) rfl (by decide +kernel) ?_
    refine fx_gi 1186 148 0 21 (by decide +kernel) ?_
    try simp only [fu_app, fcy_app, Nat.reduceEqDiff, and_true, and_false, false_and, true_and, if_true, if_false, ite_true, ite_false, reduceIte, Int.reduceToNat, fx_simp0]
    refine fx_zle 26 24 (by decide +kernel) (by unfold fR; omega) (fun h21 => ?_) (fun h21 => ?_)
    · exfalso; omega
    · refine fx_ci (0) 25 (by decide +kernel) ?_
      refine fx_ret (by decide +kernel) ?_
      exact k1 t
theorem sp_mnights {a : Int} (ha : fR a) (hA : 0 ≤ g 148 6 ∧ g 148 6 ≤ 12) (h : NI (g 149)) (hw : LwR (g 149) segs) (k1 : ¬ (1 ≤ a ∧ a ≤ 60) → Q 1 (fI 0) (fu g 148 0 1))
    (k3 : ∀ n : Nat, a = n → 1 ≤ a ∧ a ≤ 60 → ∀ G', rN (mRem (fu g 148 0 0)) G' → Q 1 (fI (goN segs true n (g 149) 0)) (frow G' (goL segs true n (g 149)))) : fx W r 40 336 0 [1186, fI a] [] g Q := by
  refine fx_la 0 1 (v := 1186) (by decide +kernel) rfl (by decide +kernel) ?_
  refine fx_li 1 2 (by decide +kernel) rfl ?_
  refine fx_ci (1) 3 (by decide +kernel) ?_
  refine fx_ci (60) 5 (by decide +kernel) ?_
  refine fx_c3 265 22 8 0 [] (f_q22 (by decide +kernel)) (by decide) (fI_n4 _) (fI_n4 _) (fI_n4 _) rfl (by first | decide | omega) ?_
  refine sp_isIn ha (by unfold fR; omega) (by unfold fR; omega) (fun t => fK1 ?_) (fun t => fK1 ?_)
  · obtain ⟨n, rfl⟩ := Int.eq_ofNat_of_zero_le (show 0 ≤ a by omega)
    refine fx_zne 15 11 (by decide +kernel) (by unfold fR; omega) (fun _ => ?_) (fun hc => absurd hc (by decide))
    refine fx_ci (0) 16 (by decide +kernel) ?_
    refine fx_pi 1186 148 0 19 (by decide +kernel) (by unfold fR; omega) ?_
    refine fx_la 0 20 (v := 1186) (by decide +kernel) rfl (by decide +kernel) ?_
    refine fx_gi 1186 148 0 23 (by decide +kernel) ?_
    try simp only [fu_app, fcy_app, Nat.reduceEqDiff, and_true, and_false, false_and, true_and, if_true, if_false, ite_true, ite_false, reduceIte, Int.reduceToNat, fx_simp0]
    refine fx_zle 28 26 (by decide +kernel) (by unfold fR; omega) (fun h23 => ?_) (fun h23 => ?_)
    · refine fx_la 0 29 (v := 1186) (by decide +kernel) rfl (by decide +kernel) ?_
      refine fx_c1 319 21 32 0 [7] (by decide +kernel) (by decide) rfl (by first | decide | omega) ?_
      refine sp_mrem (by rw [fu_nj (by decide)]; exact hA.1) (by rw [fu_nj (by decide)]; exact hA.2) (fK0 ?_)
      rw [mRem_row]
      refine fx_la 0 33 (v := 1186) (by decide +kernel) rfl (by decide +kernel) ?_
      refine fx_li 1 34 (by decide +kernel) rfl ?_
      refine fx_ci (1) 35 (by decide +kernel) ?_
      refine fx_c3 337 21 38 39 [7, 7] (by decide +kernel) (by decide) (by decide) (fI_n4 _) (fI_n4 _) rfl (by first | decide | omega) ?_
      refine sp_mgoes (dr := true) (nn := n) (by omega) h hw (fun G' x => fK1 ?_)
      refine fx_ret (by decide +kernel) ?_
      exact k3 n rfl t G' x
    · refine fx_ci (0) 27 (by decide +kernel) ?_
      refine fx_ret (by decide +kernel) ?_
      exfalso; omega
  · refine fx_zne 15 11 (by decide +kernel) (by unfold fR; omega) (fun hc => absurd hc (by decide)) (fun _ => ?_)
    refine fx_ci (1) 12 (by decide +kernel) ?_
    refine fx_go 16 (by decide +kernel) ?_
    refine fx_pi 1186 148 0 19 (by decide +kernel) (by unfold fR; omega) ?_
    refine fx_la 0 20 (v := 1186) (by decide +kernel) rfl (by decide +kernel) ?_
    refine fx_gi 1186 148 0 23 (by decide +kernel) ?_
    try simp only [fu_app, fcy_app, Nat.reduceEqDiff, and_true, and_false, false_and, true_and, if_true, if_false, ite_true, ite_false, reduceIte, Int.reduceToNat, fx_simp0]
    refine fx_zle 28 26 (by decide +kernel) (by unfold fR; omega) (fun h23 => ?_) (fun h23 => ?_)
    · exfalso; omega
    · refine fx_ci (0) 27 (by decide +kernel) ?_
      refine fx_ret (by decide +kernel) ?_
      exact k1 t
theorem sp_moff {a : Int} (ha : fR a) (hb : mBd g) (h : NI (g 149)) (hw : LwR (g 149) segs) (k1 : ¬ (0 ≤ a ∧ a < g 149 3) → Q 1 (fI 0) (fu g 148 0 1))
    (k2 : ∀ p : Nat, a = p → (p : Int) < g 149 3 → ¬ (awT (g 149) p ∧ mMay (g 149) segs p) → ∀ g1, rA (fu g 148 0 0) g1 → Q 1 (fI 0) (fu g1 148 0 2))
    (k3 : ∀ p : Nat, a = p → (p : Int) < g 149 3 → awT (g 149) p → mMay (g 149) segs p → ∀ g1, rA (fu g 148 0 0) g1 → Q 1 (fI (tOff (g 149) p 8)) (frow (mRem (fu g1 148 0 0)) (tOff (g 149) p))) : fx W r 37 331 0 [1186, fI a] [] g Q := by
  obtain ⟨b3, bA, b8, b10, bw⟩ := hb
  refine fx_rg (fun hg => ?_)
  refine fx_la 0 1 (v := 1186) (by decide +kernel) rfl (by decide +kernel) ?_
  refine fx_la 0 2 (v := 1186) (by decide +kernel) rfl (by decide +kernel) ?_
  refine fx_li 1 3 (by decide +kernel) rfl ?_
  refine fx_c2 297 21 6 1 [] (by decide +kernel) (by decide) (by decide) (fI_n4 _) rfl (by first | decide | omega) ?_
  refine sp_misPersonE ha b3.1 b3.2 (fun t => fK1 ?_) (fun t => fK1 ?_)
  · obtain ⟨p, rfl⟩ := Int.eq_ofNat_of_zero_le t.1
    have hp : p < 8 := by omega
    have bwp := bw p hp
    have bpp := h.1.2.2.2.2.2.1 p hp
    have rowE : fu g 148 0 0 149 = g 149 := fu_row (by decide)
    refine fx_zne 13 9 (by decide +kernel) (by unfold fR; omega) (fun _ => ?_) (fun hc => absurd hc (by decide))
    refine fx_ci (0) 14 (by decide +kernel) ?_
    refine fx_pi 1186 148 0 17 (by decide +kernel) (by unfold fR; omega) ?_
    refine fx_la 0 18 (v := 1186) (by decide +kernel) rfl (by decide +kernel) ?_
    refine fx_gi 1186 148 0 21 (by decide +kernel) ?_
    try simp only [fu_app, fcy_app, Nat.reduceEqDiff, and_true, and_false, false_and, true_and, if_true, if_false, ite_true, ite_false, reduceIte, Int.reduceToNat, fx_simp0]
    refine fx_zle 26 24 (by decide +kernel) (by unfold fR; omega) (fun h21 => ?_) (fun h21 => ?_)
    · refine fx_la 0 27 (v := 1186) (by decide +kernel) rfl (by decide +kernel) ?_
      refine fx_la 0 28 (v := 1186) (by decide +kernel) rfl (by decide +kernel) ?_
      refine fx_li 1 29 (by decide +kernel) rfl ?_
      refine fx_c2 299 21 32 36 [] (by decide +kernel) (by decide) (by decide) (fI_n4 _) rfl (by first | decide | omega) ?_
      refine sp_mmayBeOff (segs := segs) (by rw [rowE]; exact hw) hp (fun u1 u2 g1 x1 => fK1 ?_) (fun u g1 x1 => fK1 ?_)
      all_goals rw [rowE] at *
      · refine fx_zne 39 35 (by decide +kernel) (by unfold fR; omega) (fun _ => ?_) (fun hc => absurd hc (by decide))
        refine fx_ci (0) 40 (by decide +kernel) ?_
        refine fx_pi 1186 148 0 43 (by decide +kernel) (by unfold fR; omega) ?_
        refine fx_la 0 44 (v := 1186) (by decide +kernel) rfl (by decide +kernel) ?_
        refine fx_gi 1186 148 0 47 (by decide +kernel) ?_
        try simp only [fu_app, fcy_app, Nat.reduceEqDiff, and_true, and_false, false_and, true_and, if_true, if_false, ite_true, ite_false, reduceIte, Int.reduceToNat, fx_simp0]
        refine fx_zle 52 50 (by decide +kernel) (by unfold fR; omega) (fun h47 => ?_) (fun h47 => ?_)
        · refine fx_la 0 53 (v := 1186) (by decide +kernel) rfl (by decide +kernel) ?_
          refine fx_c1 319 21 56 0 [7] (by decide +kernel) (by decide) rfl (by first | decide | omega) ?_
          have gm : g1 149 = g 149 := by
            funext j
            rw [x1 _ _ (by decide) (fun u => absurd u.1 (by decide)), fu_nc (by decide)]
          have ga : g1 148 6 = g 148 6 := by rw [x1 _ _ (by decide) (by decide), fu_nj (by decide)]
          refine sp_mrem (by rw [fu_nj (by decide), ga]; exact bA.1) (by rw [fu_nj (by decide), ga]; exact bA.2) (fK0 ?_)
          have eG := mRem_row (g := g1) (z := 0)
          rw [gm] at eG
          rw [eG]
          have k3 := k3 p rfl (by omega) u1 u2 g1 x1
          clear eG
          generalize mRem (fu g1 148 0 0) = G at k3 ⊢
          refine fx_la 0 57 (v := 1186) (by decide +kernel) rfl (by decide +kernel) ?_
          refine fx_li 1 58 (by decide +kernel) rfl ?_
          refine fx_ci (5) 59 (by decide +kernel) ?_
          refine fx_ci (1) 60 (by decide +kernel) ?_
          refine fx_c4 287 21 63 0 [] (by decide +kernel) (by decide) (by decide) (fI_n4 _) (fI_n4 _) (fI_n4 _) rfl (by first | decide | omega) ?_
          refine sp_mputF (w := 5) hp (by decide) (by unfold fR; omega) (fK0 ?_)
          refine fx_la 0 64 (v := 1186) (by decide +kernel) rfl (by decide +kernel) ?_
          refine fx_la 0 65 (v := 1186) (by decide +kernel) rfl (by decide +kernel) ?_
          refine fx_li 1 66 (by decide +kernel) rfl ?_
          refine fx_ci (2) 67 (by decide +kernel) ?_
          refine fx_c3 298 21 70 0 [] (by decide +kernel) (by decide) (by decide) (fI_n4 _) (fI_n4 _) rfl (by first | decide | omega) ?_
          refine sp_mof (w := 2) hp (by decide) (fK1 ?_)
          rw [frow_m, tU_ne (by omega), show 12 + 7 * p + 2 = 14 + 7 * p by omega]
          refine fx_c2 320 21 73 1 [] (by decide +kernel) (by decide) (by decide) (fI_n4 _) rfl (by first | decide | omega) ?_
          refine sp_mgivesE (by rw [tU_ne (by omega)]; exact b8.1) (by rw [tU_ne (by omega)]; exact b8.2) (by omega) (by omega) (fK0 ?_)
          refine fx_la 0 74 (v := 1186) (by decide +kernel) rfl (by decide +kernel) ?_
          refine fx_li 1 75 (by decide +kernel) rfl ?_
          refine fx_ci (1) 76 (by decide +kernel) ?_
          refine fx_la 0 77 (v := 1186) (by decide +kernel) rfl (by decide +kernel) ?_
          refine fx_li 1 78 (by decide +kernel) rfl ?_
          refine fx_ci (0) 79 (by decide +kernel) ?_
          refine fx_c3 298 21 82 0 [] (by decide +kernel) (by decide) (by decide) (fI_n4 _) (fI_n4 _) rfl (by first | decide | omega) ?_
          refine sp_mof (w := 0) hp (by decide) (fK1 ?_)
          rw [frow_m, show 12 + 7 * p + 0 = 12 + 7 * p from rfl]
          have ep : tIron (tU (g 149) (12 + 7 * p + 5) 1) (g 149 (14 + 7 * p)) (12 + 7 * p) = g 149 (12 + 7 * p) := by unfold tIron; rw [tU_ne (by omega), tU_ne (by omega)]
          rw [ep]
          refine fx_c4 322 21 85 1 [7] (by decide +kernel) (by decide) (by decide) (fI_n4 _) (fI_n4 _) (fI_n4 _) rfl (by first | decide | omega) ?_
          refine sp_mlogsF (by unfold fR; omega) (by unfold fR; omega) (by unfold fR; omega) (by unfold tIron; rw [tU_ne (by decide), tU_ne (by omega)]; exact b10.1) (by unfold tIron; rw [tU_ne (by decide), tU_ne (by omega)]; exact b10.2) (fK0 ?_)
          refine fx_la 0 86 (v := 1186) (by decide +kernel) rfl (by decide +kernel) ?_
          refine fx_gp 1186 148 1 1194 89 (by decide +kernel) ?_
          refine fx_ci (8) 91 (by decide +kernel) ?_
          refine fx_al 1194 149 764 92 (by decide +kernel) rfl (by omega) (by omega) rfl ?_
          try simp only [fu_app, fcy_app, Nat.reduceEqDiff, and_true, and_false, false_and, true_and, if_true, if_false, ite_true, ite_false, reduceIte, Int.reduceToNat, fx_simp0]
          refine fx_ret (by decide +kernel) ?_
          exact k3
        · refine fx_ci (0) 51 (by decide +kernel) ?_
          refine fx_ret (by decide +kernel) ?_
          exfalso; omega
      · refine fx_zne 39 35 (by decide +kernel) (by unfold fR; omega) (fun hc => absurd hc (by decide)) (fun _ => ?_)
        refine fx_ci (2) 36 (by decide +kernel) ?_
        refine fx_go 40 (by decide +kernel) ?_
        refine fx_pi 1186 148 0 43 (by decide +kernel) (by unfold fR; omega) ?_
        refine fx_la 0 44 (v := 1186) (by decide +kernel) rfl (by decide +kernel) ?_
        refine fx_gi 1186 148 0 47 (by decide +kernel) ?_
        try simp only [fu_app, fcy_app, Nat.reduceEqDiff, and_true, and_false, false_and, true_and, if_true, if_false, ite_true, ite_false, reduceIte, Int.reduceToNat, fx_simp0]
        refine fx_zle 52 50 (by decide +kernel) (by unfold fR; omega) (fun h47 => ?_) (fun h47 => ?_)
        · exfalso; omega
        · refine fx_ci (0) 51 (by decide +kernel) ?_
          refine fx_ret (by decide +kernel) ?_
          exact k2 p rfl (by omega) u g1 x1
    · refine fx_ci (0) 25 (by decide +kernel) ?_
      refine fx_ret (by decide +kernel) ?_
      exfalso; omega
  · refine fx_zne 13 9 (by decide +kernel) (by unfold fR; omega) (fun hc => absurd hc (by decide)) (fun _ => ?_)
    refine fx_ci (1) 10 (by decide +kernel) ?_
    refine fx_go 14 (by decide +kernel) ?_
    refine fx_pi 1186 148 0 17 (by decide +kernel) (by unfold fR; omega) ?_
    refine fx_la 0 18 (v := 1186) (by decide +kernel) rfl (by decide +kernel) ?_
    refine fx_gi 1186 148 0 21 (by decide +kernel) ?_
    try simp only [fu_app, fcy_app, Nat.reduceEqDiff, and_true, and_false, false_and, true_and, if_true, if_false, ite_true, ite_false, reduceIte, Int.reduceToNat, fx_simp0]
    refine fx_zle 26 24 (by decide +kernel) (by unfold fR; omega) (fun h21 => ?_) (fun h21 => ?_)
    · exfalso; omega
    · refine fx_ci (0) 25 (by decide +kernel) ?_
      refine fx_ret (by decide +kernel) ?_
      exact k1 t
theorem sp_cserve {a : Int} {t : Nat → Int} (hr : 1 ≤ r) (ha : fR a) (hb : cBd g) (hd : 0 ≤ g 3 5 ∧ g 3 5 ≤ 6) (hH : RHf 3 g t) (hT : RTb 16 g t) (h : NI t) (hL : LwL g segs) (hw : LwR t segs) (k1 : ¬ (0 ≤ a ∧ a < g 3 5) → Q 4 0 g)
    (k3 : 0 ≤ a ∧ a < g 3 5 → ∀ i : Nat, i < 12 → i = ((g 0 17).toNat + 1) % 12 → ∀ g', CT_table (cRem g i) t g' (niT segs a true t) → Q 1 (fI (niN segs a (niW true t))) g') : fx W r 6 160 0 [2, fI a] [] g Q := by
  obtain ⟨b0, bn, bc, b5, b6, b9, b8, bw, bp⟩ := hb
  have e4 : g 3 5 = t 4 := hH.2.1
  refine fx_la 0 1 (v := 2) (by decide +kernel) rfl (by decide +kernel) ?_
  refine fx_li 1 2 (by decide +kernel) rfl ?_
  refine fx_c2 139 21 5 0 [] (by decide +kernel) (by decide) (by decide) (fI_n4 _) rfl (by first | decide | omega) ?_
  refine sp_needDish hr ha hd.1 hd.2 (fun u => fK0 ?_) (fun u => fK2 (k := 2) ?_)
  · refine fx_la 0 6 (v := 2) (by decide +kernel) rfl (by decide +kernel) ?_
    refine fx_c1 152 21 9 1 [] (by decide +kernel) (by decide) rfl (by first | decide | omega) ?_
    refine sp_crem bn.1 bn.2 bc.1 bc.2 (fun i hi hi2 => fK0 ?_)
    have k3 := k3 u i hi hi2
    have eG : ∀ c j, 3 ≤ c → c < 76 → cRem g i c j = g c j := fun c j h1 h2 => cRem_ne hi (fun t => by omega) (Or.inl h2)
    generalize cRem g i = G at k3 eG ⊢
    have hn : CN_table G t segs := ⟨RHf_eq hH (fun j _ _ => eG _ _ (by decide) (by decide)) (fun i j _ _ => eG _ _ (by omega) (by omega)), by rw [eG _ _ (by decide) (by decide)]; exact hd.2, hL.cg (eG _ _ (by decide) (by decide)) (fun i j _ _ => eG _ _ (by omega) (by omega)), hw⟩
    have hC : CT_table G t G t := ⟨RTb_cg hT (fun j _ _ => eG _ _ (by decide) (by decide)) (fun k j _ _ => eG _ _ (by omega) (by omega)) (fun _ _ => rfl), fTF_table.rf, h, NF.rf⟩
    refine fx_la 0 10 (v := 2) (by decide +kernel) rfl (by decide +kernel) ?_
    refine fx_gp 2 0 7 346 13 (by decide +kernel) ?_
    refine fx_la 0 14 (v := 2) (by decide +kernel) rfl (by decide +kernel) ?_
    refine fx_gp 2 0 3 130 17 (by decide +kernel) ?_
    refine fx_li 1 18 (by decide +kernel) rfl ?_
    refine fx_ci (1) 19 (by decide +kernel) ?_
    refine fx_c4 161 21 22 5 [7] (by decide +kernel) (by decide) (by decide) (by decide) (fI_n4 _) (fI_n4 _) rfl (by first | decide | omega) ?_
    refine sp_cnight_table (dr := true) hn hC (Or.inr (by omega)) (fun g' h' => fK1 ?_)
    refine fx_ret (by decide +kernel) ?_
    exact k3 g' h'
  · exact k1 u
theorem sp_cnights {a : Int} {t : Nat → Int} (hr : 1 ≤ r) (ha : fR a) (hb : cBd g) (hd : 0 ≤ g 3 5 ∧ g 3 5 ≤ 6) (hH : RHf 3 g t) (hT : RTb 16 g t) (h : NI t) (hL : LwL g segs) (hw : LwR t segs) (k1 : ¬ (1 ≤ a ∧ a ≤ 60) → Q 2 0 g)
    (k3 : ∀ n : Nat, a = n → 1 ≤ a ∧ a ≤ 60 → ∀ i : Nat, i < 12 → i = ((g 0 17).toNat + 1) % 12 → ∀ g', CT_table (cRem g i) t g' (goL segs true n t) → Q 1 (fI (goN segs true n t 0)) g') : fx W r 7 177 0 [2, fI a] [] g Q := by
  obtain ⟨b0, bn, bc, b5, b6, b9, b8, bw, bp⟩ := hb
  refine fx_la 0 1 (v := 2) (by decide +kernel) rfl (by decide +kernel) ?_
  refine fx_li 1 2 (by decide +kernel) rfl ?_
  refine fx_ci (1) 3 (by decide +kernel) ?_
  refine fx_ci (60) 5 (by decide +kernel) ?_
  refine fx_c4 173 21 8 0 [] (by decide +kernel) (by decide) (by decide) (fI_n4 _) (fI_n4 _) (fI_n4 _) rfl (by first | decide | omega) ?_
  refine sp_cneedWithin hr ha (by unfold fR; omega) (by unfold fR; omega) (fun u => fK0 ?_) (fun u => fK2 (k := 0) ?_)
  · obtain ⟨n, rfl⟩ := Int.eq_ofNat_of_zero_le (show 0 ≤ a by omega)
    refine fx_la 0 9 (v := 2) (by decide +kernel) rfl (by decide +kernel) ?_
    refine fx_c1 152 21 12 1 [] (by decide +kernel) (by decide) rfl (by first | decide | omega) ?_
    refine sp_crem bn.1 bn.2 bc.1 bc.2 (fun i hi hi2 => fK0 ?_)
    have k3 := k3 n rfl u i hi hi2
    have eG : ∀ c j, 3 ≤ c → c < 76 → cRem g i c j = g c j := fun c j h1 h2 => cRem_ne hi (fun t => by omega) (Or.inl h2)
    generalize cRem g i = G at k3 eG ⊢
    have hn : CN_table G t segs := ⟨RHf_eq hH (fun j _ _ => eG _ _ (by decide) (by decide)) (fun i j _ _ => eG _ _ (by omega) (by omega)), by rw [eG _ _ (by decide) (by decide)]; exact hd.2, hL.cg (eG _ _ (by decide) (by decide)) (fun i j _ _ => eG _ _ (by omega) (by omega)), hw⟩
    have hC : CT_table G t G t := ⟨RTb_cg hT (fun j _ _ => eG _ _ (by decide) (by decide)) (fun k j _ _ => eG _ _ (by omega) (by omega)) (fun _ _ => rfl), fTF_table.rf, h, NF.rf⟩
    refine fx_la 0 13 (v := 2) (by decide +kernel) rfl (by decide +kernel) ?_
    refine fx_gp 2 0 7 346 16 (by decide +kernel) ?_
    refine fx_la 0 17 (v := 2) (by decide +kernel) rfl (by decide +kernel) ?_
    refine fx_gp 2 0 3 130 20 (by decide +kernel) ?_
    refine fx_li 1 21 (by decide +kernel) rfl ?_
    refine fx_ci (1) 22 (by decide +kernel) ?_
    refine fx_c4 178 21 25 6 [7, 7, 7] (by decide +kernel) (by decide) (by decide) (by decide) (fI_n4 _) (fI_n4 _) rfl (by first | decide | omega) ?_
    refine sp_cnights_table (dr := true) (nn := n) hn (by omega) hC (fun g' h' => fK1 ?_)
    refine fx_ret (by decide +kernel) ?_
    exact k3 g' h'
  · exact k1 u
theorem sp_coff {a : Int} {t : Nat → Int} (hr : 1 ≤ r) (ha : fR a) (hb : cBd g) (hH : RHf 3 g t) (hT : RTb 16 g t) (hL : LwL g segs) (hw : LwR t segs) (k1 : ¬ (0 ≤ a ∧ a < g 3 4) → Q 4 0 g)
    (k2 : ∀ p : Nat, a = p → (p : Int) < g 3 4 → ¬ (awT t p ∧ mMay t segs p) → ∀ g1, fFS g g1 → Q 6 0 g1)
    (k3 : ∀ p : Nat, a = p → (p : Int) < g 3 4 → awT t p → mMay t segs p → ∀ g1, fFS g g1 → ∀ i : Nat, i < 12 → i = ((g 0 17).toNat + 1) % 12 → Q 1 (fI (if 9999 < g 16 8 + g 4 p then 9999 else g 16 8 + g 4 p)) (cNote 16 (fu (fu (cRem g1 i) 16 7 (fop 4 (g 16 7) (fop 6 1 (p : Int)))) 16 8 (if 9999 < g 16 8 + g 4 p then 9999 else g 16 8 + g 4 p)) p 1 (g 17 p))) : fx W r 4 168 0 [2, fI a] [] g Q := by
  obtain ⟨b0, bn, bc, b5, b6, b9, b8, bw, bp⟩ := hb
  refine fx_rg (fun hg => ?_)
  refine fx_la 0 1 (v := 2) (by decide +kernel) rfl (by decide +kernel) ?_
  refine fx_li 1 2 (by decide +kernel) rfl ?_
  refine fx_c2 123 21 5 0 [] (by decide +kernel) (by decide) (by decide) (fI_n4 _) rfl (by first | decide | omega) ?_
  refine sp_cneedPerson hr ha b0.1 b0.2 (fun q0 => fK0 ?_) (fun q0 => fK2 (k := 2) ?_)
  · obtain ⟨p, rfl⟩ := Int.eq_ofNat_of_zero_le q0.1
    have hp : p < 8 := by omega
    have bwp := bw p hp
    have bpp := bp p hp
    refine fx_la 0 6 (v := 2) (by decide +kernel) rfl (by decide +kernel) ?_
    refine fx_gp 2 0 3 130 9 (by decide +kernel) ?_
    refine fx_li 1 10 (by decide +kernel) rfl ?_
    refine fx_c2 55 21 13 1 [] (by decide +kernel) (by decide) (by decide) (fI_n4 _) rfl (by first | decide | omega) ?_
    refine sp_cawayR_table hT.1 hp (fun u => fK1 ?_) (fun u => fK1 ?_)
    · refine fx_zeq 31 16 (by decide +kernel) (by unfold fR; omega) (fun hc => absurd hc (by decide)) (fun _ => ?_)
      refine fx_la 0 17 (v := 2) (by decide +kernel) rfl (by decide +kernel) ?_
      refine fx_gp 2 0 7 346 20 (by decide +kernel) ?_
      refine fx_la 0 21 (v := 2) (by decide +kernel) rfl (by decide +kernel) ?_
      refine fx_gp 2 0 3 130 24 (by decide +kernel) ?_
      refine fx_li 1 25 (by decide +kernel) rfl ?_
      refine fx_c3 125 21 28 3 [] (by decide +kernel) (by decide) (by decide) (by decide) (fI_n4 _) rfl (by first | decide | omega) ?_
      have hF := cF_m_table (pl := g 17 p) (d := 0) hH hT.1 hp
      refine sp_cmayBeOff_table (segs := segs) hL (by rw [hF]; exact hw.ok (mFv_78 _ _ _ _)) hp (fun v g1 x1 => fK1 ?_) (fun v g1 x1 => fK1 ?_)
      all_goals rw [cMay_m_table hH hT.1 hp] at v
      · refine fx_zne 42 31 (by decide +kernel) (by unfold fR; omega) (fun _ => ?_) (fun hc => absurd hc (by decide))
        refine fx_la 0 43 (v := 2) (by decide +kernel) rfl (by decide +kernel) ?_
        refine fx_c1 152 21 46 1 [] (by decide +kernel) (by decide) rfl (by first | decide | omega) ?_
        have en : g1 0 17 = g 0 17 := x1 _ _ (by decide) (by decide)
        have ec : g1 0 16 = g 0 16 := x1 _ _ (by decide) (by decide)
        refine sp_crem (by rw [en]; exact bn.1) (by rw [en]; exact bn.2) (by rw [ec]; exact bc.1) (by rw [ec]; exact bc.2) (fun i hi hi2 => fK0 ?_)
        rw [en] at hi2
        have k3 := k3 p rfl (by omega) u v g1 x1 i hi hi2
        have eG : ∀ c j, 3 ≤ c → c < 76 → c ≠ 14 → c ≠ 15 → cRem g1 i c j = g c j := fun c j h1 h2 h3 h4 => by rw [cRem_ne hi (fun t => by omega) (Or.inl h2), x1 c j h3 h4]
        generalize cRem g1 i = G at k3 eG ⊢
        refine fx_la 0 47 (v := 2) (by decide +kernel) rfl (by decide +kernel) ?_
        refine fx_gp 2 0 3 130 50 (by decide +kernel) ?_
        refine fx_dup 51 (by decide +kernel) rfl (by decide) ?_
        refine fx_gi 130 16 7 54 (by decide +kernel) ?_
        try simp only [fu_app, fcy_app, Nat.reduceEqDiff, and_true, and_false, false_and, true_and, if_true, if_false, ite_true, ite_false, reduceIte, Int.reduceToNat, fx_simp0]
        rw [eG _ _ (by decide) (by decide) (by decide) (by decide)]
        refine fx_ci (1) 55 (by decide +kernel) ?_
        refine fx_li 1 56 (by decide +kernel) rfl ?_
        refine fx_bin 6 57 (by decide +kernel) rfl (fun h => absurd h (by decide)) ?_
        refine fx_bin 4 58 (by decide +kernel) rfl (fun h => absurd h (by decide)) ?_
        refine fx_pi 130 16 7 61 (by decide +kernel) (by first | exact fop_R _ _ _ | (unfold fR; omega)) ?_
        refine fx_la 0 62 (v := 2) (by decide +kernel) rfl (by decide +kernel) ?_
        refine fx_gp 2 0 3 130 65 (by decide +kernel) ?_
        refine fx_la 0 66 (v := 2) (by decide +kernel) rfl (by decide +kernel) ?_
        refine fx_gp 2 0 1 26 69 (by decide +kernel) ?_
        refine fx_gp 26 3 0 34 72 (by decide +kernel) ?_
        refine fx_li 1 73 (by decide +kernel) rfl ?_
        refine fx_al 34 4 8 74 (by decide +kernel) rfl (by omega) (by omega) rfl ?_
        try simp only [fu_app, fcy_app, Nat.reduceEqDiff, and_true, and_false, false_and, true_and, if_true, if_false, ite_true, ite_false, reduceIte, Int.reduceToNat, fx_simp0]
        rw [show ((p : Int)).toNat = p from rfl, eG _ _ (by decide) (by decide) (by decide) (by decide)]
        refine fx_c2 157 21 77 1 [] (by decide +kernel) (by decide) (by decide) (fI_n4 _) rfl (by first | decide | omega) ?_
        have e8 : fu G 16 7 (fop 4 (g 16 7) (fop 6 1 (p : Int))) 16 8 = g 16 8 := by rw [fu_nj (by decide), eG _ _ (by decide) (by decide) (by decide) (by decide)]
        refine sp_caddIron (by rw [e8]; exact b8.1) (by rw [e8]; exact b8.2) bwp.1 bwp.2 (fK0 ?_)
        rw [e8]
        have awp : g 17 p = t (12 + 7 * p) := hT.1.1 p hp
        have u1 := u.1
        refine fx_la 0 78 (v := 2) (by decide +kernel) rfl (by decide +kernel) ?_
        refine fx_gp 2 0 3 130 81 (by decide +kernel) ?_
        refine fx_li 1 82 (by decide +kernel) rfl ?_
        refine fx_ci (1) 83 (by decide +kernel) ?_
        refine fx_la 0 84 (v := 2) (by decide +kernel) rfl (by decide +kernel) ?_
        refine fx_gp 2 0 3 130 87 (by decide +kernel) ?_
        refine fx_gp 130 16 0 138 90 (by decide +kernel) ?_
        refine fx_li 1 91 (by decide +kernel) rfl ?_
        refine fx_al 138 17 8 92 (by decide +kernel) rfl (by omega) (by omega) rfl ?_
        try simp only [fu_app, fcy_app, Nat.reduceEqDiff, and_true, and_false, false_and, true_and, if_true, if_false, ite_true, ite_false, reduceIte, Int.reduceToNat, fx_simp0]
        rw [show ((p : Int)).toNat = p from rfl, eG _ _ (by decide) (by decide) (by decide) (by decide)]
        refine fx_c4 153 21 95 0 [] (by decide +kernel) (by decide) (by decide) (fI_n4 _) (fI_n4 _) (fI_n4 _) rfl (by first | decide | omega) ?_
        refine sp_cnote_table (by rw [fu_nj (by decide), fu_nj (by decide), eG _ _ (by decide) (by decide) (by decide) (by decide)]; exact b5.1) (by rw [fu_nj (by decide), fu_nj (by decide), eG _ _ (by decide) (by decide) (by decide) (by decide)]; exact b5.2) (by rw [fu_nj (by decide), fu_nj (by decide), eG _ _ (by decide) (by decide) (by decide) (by decide)]; exact b6.1) (by rw [fu_nj (by decide), fu_nj (by decide), eG _ _ (by decide) (by decide) (by decide) (by decide)]; exact b6.2) (by rw [fu_nj (by decide), fu_nj (by decide), eG _ _ (by decide) (by decide) (by decide) (by decide)]; exact b9.1) (by rw [fu_nj (by decide), fu_nj (by decide), eG _ _ (by decide) (by decide) (by decide) (by decide)]; exact b9.2) (by omega) (by omega) (by decide) (by decide) (by omega) (by omega) (fK0 ?_)
        refine fx_la 0 96 (v := 2) (by decide +kernel) rfl (by decide +kernel) ?_
        refine fx_gp 2 0 3 130 99 (by decide +kernel) ?_
        refine fx_gi 130 16 8 102 (by decide +kernel) ?_
        try simp only [fu_app, fcy_app, Nat.reduceEqDiff, and_true, and_false, false_and, true_and, if_true, if_false, ite_true, ite_false, reduceIte, Int.reduceToNat, fx_simp0]
        rw [cNote_ne (by decide) (by decide), fu_eq]
        refine fx_ret (by decide +kernel) ?_
        exact k3
      · refine fx_zne 42 31 (by decide +kernel) (by unfold fR; omega) (fun hc => absurd hc (by decide)) (fun _ => ?_)
        refine fx_throw 4 (by decide +kernel) rfl (by omega) ?_
        exact k2 p rfl (by omega) (fun q => v q.2) g1 x1
    · refine fx_zeq 31 16 (by decide +kernel) (by unfold fR; omega) (fun _ => ?_) (fun hc => absurd hc (by decide))
      refine fx_throw 4 (by decide +kernel) rfl (by omega) ?_
      exact k2 p rfl (by omega) (fun q => u q.1) g fFS.rf
  · exact k1 q0
end FIM
end
section
/-! fx: acts on both sides -/
/-- places of the main relation -/
def RK (c j : Nat) : Prop := c = 2 ∨ (3 ≤ c ∧ c ≤ 7) ∨ (16 ≤ c ∧ c ≤ 21) ∨ (76 ≤ c ∧ c ≤ 147) ∨ (c = 0 ∧ (j = 17 ∨ j = 16)) ∨ c = 149 ∨ c = 152 ∨ c = 153 ∨ (c = 148 ∧ j = 6)
theorem RMain_cg {g g2 : Nat → Nat → Int} (h : RMain g) (e : ∀ c j, RK c j → g2 c j = g c j) : RMain g2 := by
  obtain ⟨a1, a2, a3, a4, a5⟩ := h
  have em : g2 149 = g 149 := by
    funext j
    exact e _ _ (by unfold RK; omega)
  refine ⟨fun j hj => ?_, ?_, ?_, by rw [em]; exact a4, RPs_cg a5 (fun c j h1 h2 => e c j (by unfold RK; omega)) (e _ _ (by unfold RK; omega)) (e _ _ (by unfold RK; omega)) (fun j => e _ _ (by unfold RK; omega)) (e _ _ (by unfold RK; omega)) (fun k _ => by rw [em])⟩
  · rw [e _ _ (by unfold RK; omega), e 153 _ (by unfold RK; omega)]; exact a1 j hj
  · rw [em]; exact RHf_eq a2 (fun j _ _ => e _ _ (by unfold RK; omega)) (fun i j i1 i2 => e _ _ (by unfold RK; omega))
  · rw [em]; exact RTb_cg a3 (fun j _ _ => e _ _ (by unfold RK; omega)) (fun i j i1 i2 => e _ _ (by unfold RK; omega)) (fun _ _ => rfl)
/-- all is as it was where it is kept alike, the lengths of the tapes apart -/
theorem LI_cg {g g2 : Nat → Nat → Int} (h : LI g) (e : ∀ c j, RK c j → g2 c j = g c j) (e2 : ∀ c j, fPk c j → ¬ (c = 1 ∧ j = 1) → ¬ (c = 148 ∧ j = 8) → g2 c j = g c j) (el : g2 1 1 = g2 148 8) : LI g2 := by
  obtain ⟨a1, a2, a3, a4, a5, a6⟩ := h
  have em : g2 149 = g 149 := by
    funext j
    exact e _ _ (by unfold RK; omega)
  refine ⟨RMain_cg a1 e, RBs_cg a2 (fun j => e _ _ (by unfold RK; omega)) (e _ _ (by unfold RK; omega)) (by rw [em]; exact a2.1), ?_, RImg_cg a4 (fun c j q => e2 c j (by unfold fPk; omega) (by omega) (by omega)) (e2 _ _ (by unfold fPk; omega) (by decide) (by decide)), el, ?_⟩
  · rw [em]
    exact RLw_eq a3 (e2 _ _ (by unfold fPk; omega) (by decide) (by decide)) (fun i j i1 i2 => e2 _ _ (by unfold fPk; omega) (by omega) (by omega)) (fun _ _ => rfl)
  · rw [e2 0 15 (by unfold fPk; omega) (by decide) (by decide), e2 148 3 (by unfold fPk; omega) (by decide) (by decide)]; exact a6
theorem LI_th {g : Nat → Nat → Int} {z : Int} (h : LI g) : LI (fu g 148 0 z) := LI_cg h (fun c j k => fu_ne (by unfold RK at k; omega)) (fun c j k _ _ => fu_ne (by unfold fPk at k; omega)) (by rw [fu_nc (by decide), fu_nj (by decide)]; exact h.2.2.2.2.1)
theorem LI_out {g : Nat → Nat → Int} {z : Int} (h : LI g) : LI (fu g 159 0 z) := LI_cg h (fun c j k => fu_ne (by unfold RK at k; omega)) (fun c j k _ _ => fu_ne (by unfold fPk at k; omega)) (by rw [fu_nc (by decide), fu_nc (by decide)]; exact h.2.2.2.2.1)
/-- the law's head, of the whole state -/
def LInv2 (g : Nat → Nat → Int) : Prop := gHs g ∧ LI g
/-- what the reference has said, and what holds then; zc: what the class has said -/
def PMa (g1 : Nat → Nat → Int) (zc : Int) (k w : Nat) (g2 : Nat → Nat → Int) : Prop := k = 1 ∧ ∃ zw, w = fI zw ∧ fR zw ∧ LI g2 ∧ g2 148 0 = zc ∧ (zc = 0 → g1 159 0 = ((fJ zw - 4 : Nat) : Int)) ∧ g2 159 0 = g1 159 0
theorem PMa_no {g1 : Nat → Nat → Int} {zc : Int} (h : LI g1) (hz : zc ≠ 0) : PMa g1 zc 1 (fI 0) (fu g1 148 0 zc) := ⟨rfl, 0, rfl, by unfold fR; decide, LI_th h, fu_eq _ _ _ _, fun t => absurd t hz, fu_nc (by decide)⟩
theorem LB2_cg {g g2 : Nat → Nat → Int} (h : LB2 g) (e : ∀ c j, c ≠ 159 → ¬ (c = 148 ∧ j = 0) → g2 c j = g c j) : LB2 g2 := by
  obtain ⟨⟨a1, a2, a3, a4, a5, a6, a7, a8, a9⟩, ⟨b1, b2, b3, b4, b5, b6, b7⟩, c1, c2, c3, c4, c5, c6⟩ := h
  have f : ∀ c j, c ≠ 159 → c ≠ 148 → g2 c j = g c j := fun c j h1 h2 => e c j h1 (fun t => h2 t.1)
  refine ⟨⟨?_, ?_, ?_, ?_, ?_, ?_, ?_, ?_, ?_⟩, ⟨?_, ?_, ?_, ?_, ?_, ?_, ?_⟩, fun j hj => ?_, fun j hj => ?_, fun j hj => ?_, fun j hj => ?_, fun j hj => ?_, fun j hj => ?_⟩
  · rw [f _ _ (by decide) (by decide)]; exact a1
  · rw [f _ _ (by decide) (by decide)]; exact a2
  · rw [f _ _ (by decide) (by decide)]; exact a3
  · rw [f _ _ (by decide) (by decide)]; exact a4
  · rw [f _ _ (by decide) (by decide)]; exact a5
  · rw [f _ _ (by decide) (by decide)]; exact a6
  · rw [f _ _ (by decide) (by decide)]; exact a7
  · rw [f _ _ (by decide) (by decide)]; exact a8
  · rw [f _ _ (by decide) (by decide)]; exact a9
  · rw [e _ _ (by decide) (by decide)]; exact b1
  · rw [f _ _ (by decide) (by decide)]; exact b2
  · rw [f _ _ (by decide) (by decide)]; exact b3
  · rw [f _ _ (by decide) (by decide)]; exact b4
  · rw [f _ _ (by decide) (by decide)]; exact b5
  · rw [e _ _ (by decide) (by decide)]; exact b6
  · rw [e _ _ (by decide) (by decide)]; exact b7
  · rw [f _ _ (by decide) (by decide)]; exact c1 j hj
  · rw [f _ _ (by decide) (by decide)]; exact c2 j hj
  · rw [f _ _ (by decide) (by decide)]; exact c3 j hj
  · rw [f _ _ (by decide) (by decide)]; exact c4 j hj
  · rw [f _ _ (by decide) (by decide)]; exact c5 j hj
  · rw [f _ _ (by decide) (by decide)]; exact c6 j hj
theorem mRem_cg {g G : Nat → Nat → Int} (e : ∀ c j, 148 ≤ c → c ≠ 159 → ¬ (c = 148 ∧ j = 0) → G c j = g c j) {c j : Nat} (h1 : 148 ≤ c) (h2 : c ≠ 159) (h3 : ¬ (c = 148 ∧ j = 0)) : mRem G c j = mRem g c j := by
  have ea := e 148 6 (by decide) (by decide) (by decide)
  unfold mRem mActs
  rw [ea]
  by_cases c1 : c = 152
  · rw [if_pos c1, if_pos c1]
    simp only [e 149 _ (by decide) (by decide) (fun t => absurd t.1 (by decide)), e 152 _ (by decide) (by decide) (fun t => absurd t.1 (by decide))]
  · rw [if_neg c1, if_neg c1]
    by_cases c2 : c = 148 ∧ j = 6
    · rw [if_pos c2, if_pos c2]
    · rw [if_neg c2, if_neg c2]
      exact e c j h1 h2 h3
/-- an act that both sides remember: the states, but for what the class has said -/
theorem act_st {g E g1 g2 : Nat → Nat → Int} {t' : Nat → Int} {z : Int} (eE : ∀ c j, 148 ≤ c → E c j = g c j) (h1 : g1 = fu E 159 0 z) (h2 : g2 = frow (mRem (fu g1 148 0 0)) t') : (∀ c j, c < 148 → fu g2 159 0 (g 159 0) c j = E c j) ∧ (∀ c j, 148 ≤ c → ¬ (c = 148 ∧ j = 0) → fu g2 159 0 (g 159 0) c j = frow (mRem g) t' c j) ∧ (∀ c j, ¬ (c = 159 ∧ j = 0) → g2 c j = fu g2 159 0 (g 159 0) c j) ∧ g2 159 0 = z ∧ g2 148 0 = 0 ∧ (∀ k, g2 149 k = t' k) := by
  have k1 : ∀ c j, 148 ≤ c → c ≠ 159 → ¬ (c = 148 ∧ j = 0) → fu g1 148 0 0 c j = g c j := fun c j a b d => by
    rw [fu_ne d, h1, fu_nc b]; exact eE c j a
  refine ⟨fun c j hc => ?_, fun c j hc hj => ?_, fun c j h => (fu_ne h).symm, ?_, ?_, fun k => by rw [h2, frow_m]⟩
  · rw [fu_nc (by omega), h2, frow_ne (by omega), mRem_ne (by omega) (by omega), fu_nc (by omega), h1, fu_nc (by omega)]
  · by_cases c1 : c = 149
    · subst c1
      rw [fu_nc (by decide), h2, frow_m, frow_m]
    · rw [frow_ne c1]
      by_cases c2 : c = 159
      · subst c2
        rw [mRem_ne (by decide) (fun t => absurd t.1 (by decide))]
        by_cases c3 : j = 0
        · subst c3; rw [fu_eq]
        · rw [fu_nj c3, h2, frow_ne (by decide), mRem_ne (by decide) (fun t => absurd t.1 (by decide)), fu_nc (by decide), h1, fu_nj c3]
          exact eE _ _ (by decide)
      · rw [fu_nc c2, h2, frow_ne c1]
        exact mRem_cg k1 hc c2 hj
  · rw [h2, frow_ne (by decide), mRem_ne (by decide) (fun t => absurd t.1 (by decide)), fu_nc (by decide), h1, fu_eq]
  · rw [h2, frow_ne (by decide), mRem_ne (by decide) (by decide), fu_eq]
/-- an act that both sides remember keeps all alike -/
theorem act_LI {g E g1 g2 : Nat → Nat → Int} {t' : Nat → Int} {z : Int} (h : LI g) (b : LB2 g) (eE : ∀ c j, 148 ≤ c → E c j = g c j) (eP : ∀ c j, fPk c j → c < 148 → E c j = g c j) (h1 : g1 = fu E 159 0 z) (h2 : g2 = frow (mRem (fu g1 148 0 0)) t') (et : ∀ k, k = 1 ∨ k = 2 ∨ (364 ≤ k ∧ k < 764) → t' k = g 149 k) (hb : RBd t') (hM : RMain (fu g2 159 0 (g 159 0))) : LI g2 := by
  obtain ⟨s1, s2, s3, s4, s5, s6⟩ := act_st eE h1 h2
  have bA := b.2.1.1
  refine LI_act h (fun c j k => ?_) (fun k hk => by rw [s6]; exact et k hk) (RMain_cg hM (fun c j k => s3 c j (by unfold RK at k; omega))) (RBs_rem h.2.1 bA (fun j => ?_) ?_ ?_)
  · have k' := k
    unfold fPk at k'
    rw [s3 c j (by omega)]
    by_cases hc : c < 148
    · rw [s1 c j hc]; exact eP c j k hc
    · rw [s2 c j (by omega) (by omega), frow_ne (by omega), mRem_ne (by omega) (by omega)]
  · rw [s3 _ _ (by omega), s2 _ _ (by omega) (by omega), frow_ne (by decide)]
    unfold mRem
    rw [if_pos rfl]
  · rw [s3 _ _ (by omega), s2 _ _ (by omega) (by omega), frow_ne (by decide)]
    unfold mRem
    rw [if_neg (by decide), if_pos ⟨rfl, rfl⟩]
  · have e : g2 149 = t' := funext s6
    rw [e]; exact hb
/-! bounds of a row that acts change -/
theorem RBd_u {t : Nat → Int} {k : Nat} {v : Int} (h : RBd t) (hk : k ≠ 0 ∧ k ≠ 7 ∧ k ≠ 8 ∧ (k < 12 ∨ 68 ≤ k ∨ ((k - 12) % 7 ≠ 1 ∧ (k - 12) % 7 ≠ 2 ∧ (k - 12) % 7 ≠ 6))) : RBd (tU t k v) := by
  obtain ⟨h1, h2, h3, h4⟩ := h
  refine ⟨by rw [tU_ne (by omega)]; exact h1, by rw [tU_ne (by omega)]; exact h2, fun p hp => ?_, by rw [tU_ne (by omega)]; exact h4⟩
  rw [tU_ne (by omega), tU_ne (by omega), tU_ne (by omega)]
  exact h3 p hp
theorem RBd_c {t : Nat → Int} {p : Nat} {v : Int} (h : RBd t) (hp : p < 8) (v0 : 0 ≤ v) (v1 : v ≤ 99) : RBd (tU t (12 + 7 * p + 6) v) := by
  obtain ⟨h1, h2, h3, h4⟩ := h
  refine ⟨by rw [tU_ne (by omega)]; exact h1, by rw [tU_ne (by omega)]; exact h2, fun q hq => ?_, by rw [tU_ne (by omega)]; exact h4⟩
  rw [tU_ne (by omega), tU_ne (j := 13 + 7 * q) (by omega)]
  refine ⟨(h3 q hq).1, ?_, (h3 q hq).2.2⟩
  by_cases e : q = p
  · subst e; rw [show 18 + 7 * q = 12 + 7 * q + 6 by omega, tU_eq]; exact ⟨v0, v1⟩
  · rw [tU_ne (by omega)]; exact (h3 q hq).2.1
theorem RBd_v {t : Nat → Int} {p : Nat} {v : Int} (h : RBd t) (hp : p < 8) (v0 : 0 ≤ v) (v1 : v ≤ 20) : RBd (tU t (12 + 7 * p + 1) v) := by
  obtain ⟨h1, h2, h3, h4⟩ := h
  refine ⟨by rw [tU_ne (by omega)]; exact h1, by rw [tU_ne (by omega)]; exact h2, fun q hq => ?_, by rw [tU_ne (by omega)]; exact h4⟩
  rw [tU_ne (by omega), tU_ne (j := 18 + 7 * q) (by omega)]
  refine ⟨(h3 q hq).1, (h3 q hq).2.1, ?_⟩
  by_cases e : q = p
  · subst e; rw [show 13 + 7 * q = 12 + 7 * q + 1 by omega, tU_eq]; exact ⟨v0, v1⟩
  · rw [tU_ne (by omega)]; exact (h3 q hq).2.2
theorem RBd_i {t : Nat → Int} {v : Int} (h : RBd t) (v0 : 0 ≤ v) (v1 : v ≤ 9999) : RBd (tU t 8 v) := by
  obtain ⟨h1, h2, h3, h4⟩ := h
  refine ⟨by rw [tU_ne (by omega)]; exact h1, by rw [tU_eq]; exact ⟨v0, v1⟩, fun q hq => ?_, by rw [tU_ne (by omega)]; exact h4⟩
  rw [tU_ne (by omega), tU_ne (by omega), tU_ne (by omega)]
  exact h3 q hq
theorem RBd_n {t : Nat → Int} {p k w : Int} (h : RBd t) : RBd (tNote t p k w) := by
  have tn : ∀ j, j < 124 → j ≠ 10 → tNote t p k w j = t j := fun j h1 h2 => by
    unfold tNote
    rw [if_neg h2, if_neg (by omega), if_neg (by omega), if_neg (by omega), if_neg (by omega), if_neg (by omega)]
  obtain ⟨h1, h2, h3, h4⟩ := h
  refine ⟨by rw [tn _ (by decide) (by decide)]; exact h1, by rw [tn _ (by decide) (by decide)]; exact h2, fun q hq => ?_, by rw [tn _ (by decide) (by decide)]; exact h4⟩
  rw [tn _ (by omega) (by omega), tn _ (by omega) (by omega), tn _ (by omega) (by omega)]
  exact h3 q hq
theorem tNote_hi {t : Nat → Int} {p k w : Int} {j : Nat} (h : j < 10 ∨ 364 ≤ j) : tNote t p k w j = t j := by
  unfold tNote
  rw [if_neg (by omega), if_neg (by omega), if_neg (by omega), if_neg (by omega), if_neg (by omega), if_neg (by omega)]
theorem cNote_hi {g : Nat → Nat → Int} {p k w : Int} {c j : Nat} (h : c < 16 ∨ 21 < c) : cNote 16 g p k w c j = g c j := cNote_ne (by omega) (by omega)
theorem cRem_hi {g : Nat → Nat → Int} {i c j : Nat} (hi : i < 12) (h : 148 ≤ c) : cRem g i c j = g c j := cRem_ne hi (by omega) (Or.inr (by omega))
theorem cRem_pk {g : Nat → Nat → Int} {i c j : Nat} (hi : i < 12) (h : fPk c j) (hc : c < 148) : cRem g i c j = g c j := by
  unfold fPk at h
  exact cRem_ne hi (by omega) (Or.inl (by omega))
end
section
/-! fx: the law's wrappers of the class's calls; acts whose end is told in one row -/
section FIO
variable {W : ax_W} {r : Nat} {g : Nat → Nat → Int} {Q : Nat → Nat → (Nat → Nat → Int) → Prop}
theorem sp_wg_house {P : Nat → Nat → (Nat → Nat → Int) → Prop} (hl : 1 ≤ W.lim) (h : fx (fWl W 0) 1 10 70 0 [2, 7] [] g P) (k : ∀ kd v g', P kd v g' → (kd = 1 ∧ ∃ z, v = fI z ∧ fR z ∧ Q 1 (fI 0) (fu g' 159 0 ((fJ z - 4 : Nat) : Int))) ∨ (kd = 2 ∧ Q 1 (fI 1) g') ∨ (kd = 3 ∧ Q 1 (fI 2) g')) : fx W 1 11 69 0 [2, 1274, 7] [] g Q := by
  refine fx_la 1 1 (v := 1274) (by decide +kernel) rfl (by decide +kernel) ?_
  refine fx_ci (0) 2 (by decide +kernel) ?_
  refine fx_la 0 3 (v := 2) (by decide +kernel) rfl (by decide +kernel) ?_
  obtain ⟨e1, e2⟩ := f_qm_ok (W := W) (L := [2, 1274, 7]) (g := g) (S := [2, fI 0, 1274]) (rest := [fI 0, 1274]) (mi := 69) (pc := 3) (mj := 70) (n := 1) (op := 21) (a := 2) (av' := []) (by decide +kernel) (by decide +kernel) (fun K => rfl) (fun t => absurd t (by decide))
  refine fx_callH (l := 0) (r := 0) (by omega) e1 e2 (by decide +kernel) (dj := 10) (by decide) (by decide +kernel) (pc' := 6) rfl (Lj := [2, 7]) (f_xp (f_n4_1 (by decide)) (show 1 ≤ _ by decide +kernel)) ?_
  refine h.mono (fun kd v g' hp => ?_)
  rcases k kd v g' hp with ⟨rfl, z, rfl, rz, q⟩ | ⟨rfl, q⟩ | ⟨rfl, q⟩
  · refine fKH1 ?_
    refine fx_i2l 7 (by decide +kernel) rfl ?_
    refine fx_las 1274 159 1 8 (by decide +kernel) rfl (by omega) (by omega) (by decide +kernel) (fJ_ok _).1 (fJ_ok _).2 ?_
    exact fx_go 17 (by decide +kernel) (fx_ci 0 18 (by decide +kernel) (fx_ret (by decide +kernel) q))
  · refine fKH2 0 12 2 (by decide +kernel) (Or.inr (f_n4p (v := 1274) rfl (by decide))) rfl ?_
    dsimp only [List.set]
    exact fx_ci 1 13 (by decide +kernel) (fx_ret (by decide +kernel) q)
  · refine fKH2 1 15 2 (by decide +kernel) (Or.inr (f_n4p (v := 1274) rfl (by decide))) rfl ?_
    dsimp only [List.set]
    exact fx_ci 2 16 (by decide +kernel) (fx_ret (by decide +kernel) q)
theorem sp_wg_law {P : Nat → Nat → (Nat → Nat → Int) → Prop} (hl : 1 ≤ W.lim) (h : fx (fWl W 0) 1 25 118 0 [2, 7] [] g P) (k : ∀ kd v g', P kd v g' → (kd = 1 ∧ ∃ z, v = fI z ∧ fR z ∧ Q 1 (fI 0) (fu g' 159 0 ((fJ z - 4 : Nat) : Int))) ∨ (kd = 2 ∧ Q 1 (fI 1) g')) : fx W 1 26 117 0 [2, 1274, 7] [] g Q := by
  refine fx_la 1 1 (v := 1274) (by decide +kernel) rfl (by decide +kernel) ?_
  refine fx_ci (0) 2 (by decide +kernel) ?_
  refine fx_la 0 3 (v := 2) (by decide +kernel) rfl (by decide +kernel) ?_
  obtain ⟨e1, e2⟩ := f_qm_ok (W := W) (L := [2, 1274, 7]) (g := g) (S := [2, fI 0, 1274]) (rest := [fI 0, 1274]) (mi := 117) (pc := 3) (mj := 118) (n := 1) (op := 21) (a := 2) (av' := []) (by decide +kernel) (by decide +kernel) (fun K => rfl) (fun t => absurd t (by decide))
  refine fx_callH (l := 0) (r := 0) (by omega) e1 e2 (by decide +kernel) (dj := 25) (by decide) (by decide +kernel) (pc' := 6) rfl (Lj := [2, 7]) (f_xp (f_n4_1 (by decide)) (show 1 ≤ _ by decide +kernel)) ?_
  refine h.mono (fun kd v g' hp => ?_)
  rcases k kd v g' hp with ⟨rfl, z, rfl, rz, q⟩ | ⟨rfl, q⟩
  · refine fKH1 ?_
    refine fx_i2l 7 (by decide +kernel) rfl ?_
    refine fx_las 1274 159 1 8 (by decide +kernel) rfl (by omega) (by omega) (by decide +kernel) (fJ_ok _).1 (fJ_ok _).2 ?_
    exact fx_go 14 (by decide +kernel) (fx_ci 0 15 (by decide +kernel) (fx_ret (by decide +kernel) q))
  · refine fKH2 0 12 2 (by decide +kernel) (Or.inr (f_n4p (v := 1274) rfl (by decide))) rfl ?_
    dsimp only [List.set]
    exact fx_ci 1 13 (by decide +kernel) (fx_ret (by decide +kernel) q)
theorem sp_wg_leave {a : Int} {P : Nat → Nat → (Nat → Nat → Int) → Prop} (hl : 1 ≤ W.lim) (h : fx (fWl W 0) 1 2 150 0 [2, fI a, 7] [] g P) (k : ∀ kd v g', P kd v g' → (kd = 1 ∧ ∃ z, v = fI z ∧ fR z ∧ Q 1 (fI 0) (fu g' 159 0 ((fJ z - 4 : Nat) : Int))) ∨ (kd = 4 ∧ Q 1 (fI 1) g') ∨ (kd = 6 ∧ Q 1 (fI 2) g')) : fx W 1 3 149 0 [2, fI a, 1274, 7] [] g Q := by
  refine fx_la 2 1 (v := 1274) (by decide +kernel) rfl (by decide +kernel) ?_
  refine fx_ci (0) 2 (by decide +kernel) ?_
  refine fx_la 0 3 (v := 2) (by decide +kernel) rfl (by decide +kernel) ?_
  refine fx_li 1 4 (by decide +kernel) rfl ?_
  obtain ⟨e1, e2⟩ := f_qm_ok (W := W) (L := [2, fI a, 1274, 7]) (g := g) (S := [fI a, 2, fI 0, 1274]) (rest := [fI 0, 1274]) (mi := 149) (pc := 4) (mj := 150) (n := 2) (op := 21) (a := 2) (av' := [fI a]) (by decide +kernel) (by decide +kernel) (fun K => rfl) (fun t => absurd t (by decide))
  refine fx_callH (l := 0) (r := 0) (by omega) e1 e2 (by decide +kernel) (dj := 2) (by decide) (by decide +kernel) (pc' := 7) rfl (Lj := [2, fI a, 7]) (f_xp (f_n4_2 (by decide)) (show 2 ≤ _ by decide +kernel)) ?_
  refine h.mono (fun kd v g' hp => ?_)
  rcases k kd v g' hp with ⟨rfl, z, rfl, rz, q⟩ | ⟨rfl, q⟩ | ⟨rfl, q⟩
  · refine fKH1 ?_
    refine fx_i2l 8 (by decide +kernel) rfl ?_
    refine fx_las 1274 159 1 9 (by decide +kernel) rfl (by omega) (by omega) (by decide +kernel) (fJ_ok _).1 (fJ_ok _).2 ?_
    exact fx_go 18 (by decide +kernel) (fx_ci 0 19 (by decide +kernel) (fx_ret (by decide +kernel) q))
  · refine fKH2 2 13 3 (by decide +kernel) (Or.inr (f_n4p (v := 1274) rfl (by decide))) rfl ?_
    dsimp only [List.set]
    exact fx_ci 1 14 (by decide +kernel) (fx_ret (by decide +kernel) q)
  · refine fKH2 4 16 3 (by decide +kernel) (Or.inr (f_n4p (v := 1274) rfl (by decide))) rfl ?_
    dsimp only [List.set]
    exact fx_ci 2 17 (by decide +kernel) (fx_ret (by decide +kernel) q)
theorem sp_wg_home {a : Int} {P : Nat → Nat → (Nat → Nat → Int) → Prop} (hl : 1 ≤ W.lim) (h : fx (fWl W 0) 1 2 155 0 [2, fI a] [] g P) (k : ∀ kd v g', P kd v g' → (kd = 1 ∧ ∃ z, v = fI z ∧ fR z ∧ Q 1 (fI 0) (fu g' 159 0 ((fJ z - 4 : Nat) : Int))) ∨ (kd = 4 ∧ Q 1 (fI 1) g') ∨ (kd = 6 ∧ Q 1 (fI 2) g')) : fx W 1 3 154 0 [2, fI a, 1274, 7] [] g Q := by
  refine fx_la 2 1 (v := 1274) (by decide +kernel) rfl (by decide +kernel) ?_
  refine fx_ci (0) 2 (by decide +kernel) ?_
  refine fx_la 0 3 (v := 2) (by decide +kernel) rfl (by decide +kernel) ?_
  refine fx_li 1 4 (by decide +kernel) rfl ?_
  obtain ⟨e1, e2⟩ := f_qm_ok (W := W) (L := [2, fI a, 1274, 7]) (g := g) (S := [fI a, 2, fI 0, 1274]) (rest := [fI 0, 1274]) (mi := 154) (pc := 4) (mj := 155) (n := 2) (op := 21) (a := 2) (av' := [fI a]) (by decide +kernel) (by decide +kernel) (fun K => rfl) (fun t => absurd t (by decide))
  refine fx_callH (l := 0) (r := 0) (by omega) e1 e2 (by decide +kernel) (dj := 2) (by decide) (by decide +kernel) (pc' := 7) rfl (Lj := [2, fI a]) (f_xp (f_n4_2 (by decide)) (show 2 ≤ _ by decide +kernel)) ?_
  refine h.mono (fun kd v g' hp => ?_)
  rcases k kd v g' hp with ⟨rfl, z, rfl, rz, q⟩ | ⟨rfl, q⟩ | ⟨rfl, q⟩
  · refine fKH1 ?_
    refine fx_i2l 8 (by decide +kernel) rfl ?_
    refine fx_las 1274 159 1 9 (by decide +kernel) rfl (by omega) (by omega) (by decide +kernel) (fJ_ok _).1 (fJ_ok _).2 ?_
    exact fx_go 18 (by decide +kernel) (fx_ci 0 19 (by decide +kernel) (fx_ret (by decide +kernel) q))
  · refine fKH2 2 13 3 (by decide +kernel) (Or.inr (f_n4p (v := 1274) rfl (by decide))) rfl ?_
    dsimp only [List.set]
    exact fx_ci 1 14 (by decide +kernel) (fx_ret (by decide +kernel) q)
  · refine fKH2 4 16 3 (by decide +kernel) (Or.inr (f_n4p (v := 1274) rfl (by decide))) rfl ?_
    dsimp only [List.set]
    exact fx_ci 2 17 (by decide +kernel) (fx_ret (by decide +kernel) q)
theorem sp_wg_rise {a : Int} {P : Nat → Nat → (Nat → Nat → Int) → Prop} (hl : 1 ≤ W.lim) (h : fx (fWl W 0) 1 2 170 0 [2, fI a, 7] [] g P) (k : ∀ kd v g', P kd v g' → (kd = 1 ∧ ∃ z, v = fI z ∧ fR z ∧ Q 1 (fI 0) (fu g' 159 0 ((fJ z - 4 : Nat) : Int))) ∨ (kd = 4 ∧ Q 1 (fI 1) g') ∨ (kd = 6 ∧ Q 1 (fI 2) g')) : fx W 1 3 169 0 [2, fI a, 1274, 7] [] g Q := by
  refine fx_la 2 1 (v := 1274) (by decide +kernel) rfl (by decide +kernel) ?_
  refine fx_ci (0) 2 (by decide +kernel) ?_
  refine fx_la 0 3 (v := 2) (by decide +kernel) rfl (by decide +kernel) ?_
  refine fx_li 1 4 (by decide +kernel) rfl ?_
  obtain ⟨e1, e2⟩ := f_qm_ok (W := W) (L := [2, fI a, 1274, 7]) (g := g) (S := [fI a, 2, fI 0, 1274]) (rest := [fI 0, 1274]) (mi := 169) (pc := 4) (mj := 170) (n := 2) (op := 21) (a := 2) (av' := [fI a]) (by decide +kernel) (by decide +kernel) (fun K => rfl) (fun t => absurd t (by decide))
  refine fx_callH (l := 0) (r := 0) (by omega) e1 e2 (by decide +kernel) (dj := 2) (by decide) (by decide +kernel) (pc' := 7) rfl (Lj := [2, fI a, 7]) (f_xp (f_n4_2 (by decide)) (show 2 ≤ _ by decide +kernel)) ?_
  refine h.mono (fun kd v g' hp => ?_)
  rcases k kd v g' hp with ⟨rfl, z, rfl, rz, q⟩ | ⟨rfl, q⟩ | ⟨rfl, q⟩
  · refine fKH1 ?_
    refine fx_i2l 8 (by decide +kernel) rfl ?_
    refine fx_las 1274 159 1 9 (by decide +kernel) rfl (by omega) (by omega) (by decide +kernel) (fJ_ok _).1 (fJ_ok _).2 ?_
    exact fx_go 18 (by decide +kernel) (fx_ci 0 19 (by decide +kernel) (fx_ret (by decide +kernel) q))
  · refine fKH2 2 13 3 (by decide +kernel) (Or.inr (f_n4p (v := 1274) rfl (by decide))) rfl ?_
    dsimp only [List.set]
    exact fx_ci 1 14 (by decide +kernel) (fx_ret (by decide +kernel) q)
  · refine fKH2 4 16 3 (by decide +kernel) (Or.inr (f_n4p (v := 1274) rfl (by decide))) rfl ?_
    dsimp only [List.set]
    exact fx_ci 2 17 (by decide +kernel) (fx_ret (by decide +kernel) q)
theorem sp_wg_vote {a b : Int} {P : Nat → Nat → (Nat → Nat → Int) → Prop} (hl : 1 ≤ W.lim) (h : fx (fWl W 0) 1 2 172 0 [2, fI a, fI b, 7] [] g P) (k : ∀ kd v g', P kd v g' → (kd = 1 ∧ ∃ z, v = fI z ∧ fR z ∧ Q 1 (fI 0) (fu g' 159 0 ((fJ z - 4 : Nat) : Int))) ∨ (kd = 4 ∧ Q 1 (fI 1) g') ∨ (kd = 2 ∧ Q 1 (fI 2) g')) : fx W 1 3 171 0 [2, fI a, fI b, 1274, 7] [] g Q := by
  refine fx_la 3 1 (v := 1274) (by decide +kernel) rfl (by decide +kernel) ?_
  refine fx_ci (0) 2 (by decide +kernel) ?_
  refine fx_la 0 3 (v := 2) (by decide +kernel) rfl (by decide +kernel) ?_
  refine fx_li 1 4 (by decide +kernel) rfl ?_
  refine fx_li 2 5 (by decide +kernel) rfl ?_
  obtain ⟨e1, e2⟩ := f_qm_ok (W := W) (L := [2, fI a, fI b, 1274, 7]) (g := g) (S := [fI b, fI a, 2, fI 0, 1274]) (rest := [fI 0, 1274]) (mi := 171) (pc := 5) (mj := 172) (n := 3) (op := 21) (a := 2) (av' := [fI a, fI b]) (by decide +kernel) (by decide +kernel) (fun K => rfl) (fun t => absurd t (by decide))
  refine fx_callH (l := 0) (r := 0) (by omega) e1 e2 (by decide +kernel) (dj := 2) (by decide) (by decide +kernel) (pc' := 8) rfl (Lj := [2, fI a, fI b, 7]) (f_xp (f_n4_3 (by decide)) (show 3 ≤ _ by decide +kernel)) ?_
  refine h.mono (fun kd v g' hp => ?_)
  rcases k kd v g' hp with ⟨rfl, z, rfl, rz, q⟩ | ⟨rfl, q⟩ | ⟨rfl, q⟩
  · refine fKH1 ?_
    refine fx_i2l 9 (by decide +kernel) rfl ?_
    refine fx_las 1274 159 1 10 (by decide +kernel) rfl (by omega) (by omega) (by decide +kernel) (fJ_ok _).1 (fJ_ok _).2 ?_
    exact fx_go 21 (by decide +kernel) (fx_ci 0 22 (by decide +kernel) (fx_ret (by decide +kernel) q))
  · refine fKH2 2 15 4 (by decide +kernel) (Or.inr (f_n4p (v := 1274) rfl (by decide))) rfl ?_
    dsimp only [List.set]
    exact fx_ci 1 16 (by decide +kernel) (fx_ret (by decide +kernel) q)
  · refine fKH2 0 19 4 (by decide +kernel) (Or.inr (f_n4p (v := 1274) rfl (by decide))) rfl ?_
    dsimp only [List.set]
    exact fx_ci 2 20 (by decide +kernel) (fx_ret (by decide +kernel) q)
theorem sp_wg_promise {a b : Int} {P : Nat → Nat → (Nat → Nat → Int) → Prop} (hl : 1 ≤ W.lim) (h : fx (fWl W 0) 1 2 175 0 [2, fI a, fI b, 7] [] g P) (k : ∀ kd v g', P kd v g' → (kd = 1 ∧ ∃ z, v = fI z ∧ fR z ∧ Q 1 (fI 0) (fu g' 159 0 ((fJ z - 4 : Nat) : Int))) ∨ (kd = 4 ∧ Q 1 (fI 1) g') ∨ (kd = 2 ∧ Q 1 (fI 2) g')) : fx W 1 3 174 0 [2, fI a, fI b, 1274, 7] [] g Q := by
  refine fx_la 3 1 (v := 1274) (by decide +kernel) rfl (by decide +kernel) ?_
  refine fx_ci (0) 2 (by decide +kernel) ?_
  refine fx_la 0 3 (v := 2) (by decide +kernel) rfl (by decide +kernel) ?_
  refine fx_li 1 4 (by decide +kernel) rfl ?_
  refine fx_li 2 5 (by decide +kernel) rfl ?_
  obtain ⟨e1, e2⟩ := f_qm_ok (W := W) (L := [2, fI a, fI b, 1274, 7]) (g := g) (S := [fI b, fI a, 2, fI 0, 1274]) (rest := [fI 0, 1274]) (mi := 174) (pc := 5) (mj := 175) (n := 3) (op := 21) (a := 2) (av' := [fI a, fI b]) (by decide +kernel) (by decide +kernel) (fun K => rfl) (fun t => absurd t (by decide))
  refine fx_callH (l := 0) (r := 0) (by omega) e1 e2 (by decide +kernel) (dj := 2) (by decide) (by decide +kernel) (pc' := 8) rfl (Lj := [2, fI a, fI b, 7]) (f_xp (f_n4_3 (by decide)) (show 3 ≤ _ by decide +kernel)) ?_
  refine h.mono (fun kd v g' hp => ?_)
  rcases k kd v g' hp with ⟨rfl, z, rfl, rz, q⟩ | ⟨rfl, q⟩ | ⟨rfl, q⟩
  · refine fKH1 ?_
    refine fx_i2l 9 (by decide +kernel) rfl ?_
    refine fx_las 1274 159 1 10 (by decide +kernel) rfl (by omega) (by omega) (by decide +kernel) (fJ_ok _).1 (fJ_ok _).2 ?_
    exact fx_go 21 (by decide +kernel) (fx_ci 0 22 (by decide +kernel) (fx_ret (by decide +kernel) q))
  · refine fKH2 2 15 4 (by decide +kernel) (Or.inr (f_n4p (v := 1274) rfl (by decide))) rfl ?_
    dsimp only [List.set]
    exact fx_ci 1 16 (by decide +kernel) (fx_ret (by decide +kernel) q)
  · refine fKH2 0 19 4 (by decide +kernel) (Or.inr (f_n4p (v := 1274) rfl (by decide))) rfl ?_
    dsimp only [List.set]
    exact fx_ci 2 20 (by decide +kernel) (fx_ret (by decide +kernel) q)
theorem sp_wg_serve {a : Int} {P : Nat → Nat → (Nat → Nat → Int) → Prop} (hl : 1 ≤ W.lim) (h : fx (fWl W 0) 1 6 160 0 [2, fI a] [] g P) (k : ∀ kd v g', P kd v g' → (kd = 1 ∧ ∃ z, v = fI z ∧ fR z ∧ Q 1 (fI 0) (fu g' 159 0 ((fJ z - 4 : Nat) : Int))) ∨ (kd = 4 ∧ Q 1 (fI 1) g')) : fx W 1 7 159 0 [2, fI a, 1274, 7] [] g Q := by
  refine fx_la 2 1 (v := 1274) (by decide +kernel) rfl (by decide +kernel) ?_
  refine fx_ci (0) 2 (by decide +kernel) ?_
  refine fx_la 0 3 (v := 2) (by decide +kernel) rfl (by decide +kernel) ?_
  refine fx_li 1 4 (by decide +kernel) rfl ?_
  obtain ⟨e1, e2⟩ := f_qm_ok (W := W) (L := [2, fI a, 1274, 7]) (g := g) (S := [fI a, 2, fI 0, 1274]) (rest := [fI 0, 1274]) (mi := 159) (pc := 4) (mj := 160) (n := 2) (op := 21) (a := 2) (av' := [fI a]) (by decide +kernel) (by decide +kernel) (fun K => rfl) (fun t => absurd t (by decide))
  refine fx_callH (l := 0) (r := 0) (by omega) e1 e2 (by decide +kernel) (dj := 6) (by decide) (by decide +kernel) (pc' := 7) rfl (Lj := [2, fI a]) (f_xp (f_n4_2 (by decide)) (show 2 ≤ _ by decide +kernel)) ?_
  refine h.mono (fun kd v g' hp => ?_)
  rcases k kd v g' hp with ⟨rfl, z, rfl, rz, q⟩ | ⟨rfl, q⟩
  · refine fKH1 ?_
    refine fx_i2l 8 (by decide +kernel) rfl ?_
    refine fx_las 1274 159 1 9 (by decide +kernel) rfl (by omega) (by omega) (by decide +kernel) (fJ_ok _).1 (fJ_ok _).2 ?_
    exact fx_go 15 (by decide +kernel) (fx_ci 0 16 (by decide +kernel) (fx_ret (by decide +kernel) q))
  · refine fKH2 2 13 3 (by decide +kernel) (Or.inr (f_n4p (v := 1274) rfl (by decide))) rfl ?_
    dsimp only [List.set]
    exact fx_ci 1 14 (by decide +kernel) (fx_ret (by decide +kernel) q)
theorem sp_wg_off {a : Int} {P : Nat → Nat → (Nat → Nat → Int) → Prop} (hl : 1 ≤ W.lim) (h : fx (fWl W 0) 1 4 168 0 [2, fI a] [] g P) (k : ∀ kd v g', P kd v g' → (kd = 1 ∧ ∃ z, v = fI z ∧ fR z ∧ Q 1 (fI 0) (fu g' 159 0 ((fJ z - 4 : Nat) : Int))) ∨ (kd = 4 ∧ Q 1 (fI 1) g') ∨ (kd = 6 ∧ Q 1 (fI 2) g')) : fx W 1 5 167 0 [2, fI a, 1274, 7] [] g Q := by
  refine fx_la 2 1 (v := 1274) (by decide +kernel) rfl (by decide +kernel) ?_
  refine fx_ci (0) 2 (by decide +kernel) ?_
  refine fx_la 0 3 (v := 2) (by decide +kernel) rfl (by decide +kernel) ?_
  refine fx_li 1 4 (by decide +kernel) rfl ?_
  obtain ⟨e1, e2⟩ := f_qm_ok (W := W) (L := [2, fI a, 1274, 7]) (g := g) (S := [fI a, 2, fI 0, 1274]) (rest := [fI 0, 1274]) (mi := 167) (pc := 4) (mj := 168) (n := 2) (op := 21) (a := 2) (av' := [fI a]) (by decide +kernel) (by decide +kernel) (fun K => rfl) (fun t => absurd t (by decide))
  refine fx_callH (l := 0) (r := 0) (by omega) e1 e2 (by decide +kernel) (dj := 4) (by decide) (by decide +kernel) (pc' := 7) rfl (Lj := [2, fI a]) (f_xp (f_n4_2 (by decide)) (show 2 ≤ _ by decide +kernel)) ?_
  refine h.mono (fun kd v g' hp => ?_)
  rcases k kd v g' hp with ⟨rfl, z, rfl, rz, q⟩ | ⟨rfl, q⟩ | ⟨rfl, q⟩
  · refine fKH1 ?_
    refine fx_i2l 8 (by decide +kernel) rfl ?_
    refine fx_las 1274 159 1 9 (by decide +kernel) rfl (by omega) (by omega) (by decide +kernel) (fJ_ok _).1 (fJ_ok _).2 ?_
    exact fx_go 18 (by decide +kernel) (fx_ci 0 19 (by decide +kernel) (fx_ret (by decide +kernel) q))
  · refine fKH2 2 13 3 (by decide +kernel) (Or.inr (f_n4p (v := 1274) rfl (by decide))) rfl ?_
    dsimp only [List.set]
    exact fx_ci 1 14 (by decide +kernel) (fx_ret (by decide +kernel) q)
  · refine fKH2 4 16 3 (by decide +kernel) (Or.inr (f_n4p (v := 1274) rfl (by decide))) rfl ?_
    dsimp only [List.set]
    exact fx_ci 2 17 (by decide +kernel) (fx_ret (by decide +kernel) q)
theorem sp_wg_nights {a : Int} {P : Nat → Nat → (Nat → Nat → Int) → Prop} (hl : 1 ≤ W.lim) (h : fx (fWl W 0) 1 7 177 0 [2, fI a] [] g P) (k : ∀ kd v g', P kd v g' → (kd = 1 ∧ ∃ z, v = fI z ∧ fR z ∧ Q 1 (fI 0) (fu g' 159 0 ((fJ z - 4 : Nat) : Int))) ∨ (kd = 2 ∧ Q 1 (fI 1) g')) : fx W 1 8 176 0 [2, fI a, 1274, 7] [] g Q := by
  refine fx_la 2 1 (v := 1274) (by decide +kernel) rfl (by decide +kernel) ?_
  refine fx_ci (0) 2 (by decide +kernel) ?_
  refine fx_la 0 3 (v := 2) (by decide +kernel) rfl (by decide +kernel) ?_
  refine fx_li 1 4 (by decide +kernel) rfl ?_
  obtain ⟨e1, e2⟩ := f_qm_ok (W := W) (L := [2, fI a, 1274, 7]) (g := g) (S := [fI a, 2, fI 0, 1274]) (rest := [fI 0, 1274]) (mi := 176) (pc := 4) (mj := 177) (n := 2) (op := 21) (a := 2) (av' := [fI a]) (by decide +kernel) (by decide +kernel) (fun K => rfl) (fun t => absurd t (by decide))
  refine fx_callH (l := 0) (r := 0) (by omega) e1 e2 (by decide +kernel) (dj := 7) (by decide) (by decide +kernel) (pc' := 7) rfl (Lj := [2, fI a]) (f_xp (f_n4_2 (by decide)) (show 2 ≤ _ by decide +kernel)) ?_
  refine h.mono (fun kd v g' hp => ?_)
  rcases k kd v g' hp with ⟨rfl, z, rfl, rz, q⟩ | ⟨rfl, q⟩
  · refine fKH1 ?_
    refine fx_i2l 8 (by decide +kernel) rfl ?_
    refine fx_las 1274 159 1 9 (by decide +kernel) rfl (by omega) (by omega) (by decide +kernel) (fJ_ok _).1 (fJ_ok _).2 ?_
    exact fx_go 15 (by decide +kernel) (fx_ci 0 16 (by decide +kernel) (fx_ret (by decide +kernel) q))
  · refine fKH2 0 13 3 (by decide +kernel) (Or.inr (f_n4p (v := 1274) rfl (by decide))) rfl ?_
    dsimp only [List.set]
    exact fx_ci 1 14 (by decide +kernel) (fx_ret (by decide +kernel) q)
/-- what the class has done: leave -/
def HM_leave (g : Nat → Nat → Int) (a zc : Int) (g1 : Nat → Nat → Int) : Prop := (zc = 1 ∧ (¬ (0 ≤ a ∧ a < g 3 4)) ∧ g1 = g) ∨ (zc = 2 ∧ (∃ p : Nat, a = p ∧ (p : Int) < g 3 4 ∧ ¬ ((g 17 p = -1 ∧ fbt (g 16 7) p ≠ 1) ∧ g 4 p ≤ g 16 8)) ∧ g1 = g) ∨ (zc = 0 ∧ ∃ p i : Nat, a = p ∧ (p : Int) < g 3 4 ∧ (g 17 p = -1 ∧ fbt (g 16 7) p ≠ 1 ∧ g 4 p ≤ g 16 8) ∧ i < 12 ∧ i = ((g 0 17).toNat + 1) % 12 ∧ g1 = fu (cNote 16 (fu (fu (cRem g i) 17 p 0) 16 8 (g 16 8 - g 4 p)) p 0 0) 159 0 ((fJ (g 16 8 - g 4 p) - 4 : Nat) : Int))
theorem sp_w_leave {a : Int} (hl : 1 ≤ W.lim) (ha : fR a) (hi : LI g) (hB : LB2 g) : fx W 1 3 149 0 [2, fI a, 1274, 7] [] g (fun k v g1 => k = 1 ∧ ∃ zc, v = fI zc ∧ 0 ≤ zc ∧ zc ≤ 3 ∧ HM_leave g a zc g1) := by
  refine fx_rg (fun hg => ?_)
  have cb := LI_cBd hi hB
  have rT : ∀ c : Nat, f_al c 8 = true → ∀ p : Nat, p < 8 → fR (g c p) := fun c hc p hp => hgA hg 8 (c := c) (j := p) hc hp
  refine sp_wg_leave (P := fun kd v g1 => (kd = 4 ∧ v = 0 ∧ (¬ (0 ≤ a ∧ a < g 3 4)) ∧ g1 = g) ∨ (kd = 6 ∧ v = 0 ∧ (∃ p : Nat, a = p ∧ (p : Int) < g 3 4 ∧ ¬ ((g 17 p = -1 ∧ fbt (g 16 7) p ≠ 1) ∧ g 4 p ≤ g 16 8)) ∧ g1 = g) ∨ (kd = 1 ∧ ∃ p i : Nat, v = fI (g 16 8 - g 4 p) ∧ fR (g 16 8 - g 4 p) ∧ a = p ∧ (p : Int) < g 3 4 ∧ (g 17 p = -1 ∧ fbt (g 16 7) p ≠ 1 ∧ g 4 p ≤ g 16 8) ∧ i < 12 ∧ i = ((g 0 17).toNat + 1) % 12 ∧ g1 = cNote 16 (fu (fu (cRem g i) 17 p 0) 16 8 (g 16 8 - g 4 p)) p 0 0)) hl ?_ (fun kd v g1 hp => ?_)
  · refine sp_cleave (Nat.le_refl 1) ha cb (fun t => Or.inl ⟨rfl, rfl, t, rfl⟩) (fun p e1 e2 e3 => Or.inr (Or.inl ⟨rfl, rfl, ⟨p, e1, e2, e3⟩, rfl⟩)) (fun p e1 e2 e3 e4 e5 i i1 i2 => Or.inr (Or.inr ⟨rfl, p, i, rfl, ?_, e1, e2, ⟨e3, e4, e5⟩, i1, i2, rfl⟩))
    have hp8 : p < 8 := by have := cb.1; omega
    have b8 := cb.2.2.2.2.2.2.1
    have bw := cb.2.2.2.2.2.2.2.1 p hp8
    have bp := cb.2.2.2.2.2.2.2.2 p hp8
    unfold fR; omega
  · rcases hp with ⟨rfl, rfl, c, rfl⟩ | ⟨rfl, rfl, c, rfl⟩ | ⟨rfl, p, i, rfl, q0, q1, q2, q3, q4, q5, rfl⟩
    · exact Or.inr (Or.inl ⟨rfl, rfl, 1, rfl, by decide, by decide, Or.inl ⟨rfl, c, rfl⟩⟩)
    · exact Or.inr (Or.inr ⟨rfl, rfl, 2, rfl, by decide, by decide, Or.inr (Or.inl ⟨rfl, c, rfl⟩)⟩)
    · exact Or.inl ⟨rfl, _, rfl, q0, rfl, 0, rfl, by decide, by decide, Or.inr (Or.inr ⟨rfl, p, i, q1, q2, q3, q4, q5, rfl⟩)⟩
theorem sp_r_leave {a zc : Int} {g1 : Nat → Nat → Int} (ha : fR a) (hi : LI g) (hB : LB2 g) (hm : HM_leave g a zc g1) : fx W r 3 318 0 [1186, fI a] [] g1 (PMa g1 zc) := by
  have mb := LI_mBd hi hB
  have cb := LI_cBd hi hB
  have hH := hi.1.2.1
  have hT := hi.1.2.2.1.1
  have e3 : g 3 4 = g 149 3 := hH.1
  have e8 : g 16 8 = g 149 8 := hT.2.2.2.2.2.1
  have eq : ∀ p : Nat, p < 8 → g 17 p = g 149 (12 + 7 * p) ∧ fbt (g 16 7) p = g 149 (17 + 7 * p) ∧ g 4 p = g 149 (14 + 7 * p) ∧ g 18 p = g 149 (13 + 7 * p) ∧ g 19 p = g 149 (16 + 7 * p) := fun p hp => ⟨hT.1 p hp, hT.2.2.2.2.1 p hp, hH.2.2.2.2.2.2.1 p hp, hT.2.1 p hp, hT.2.2.1 p hp⟩
  have b3 := mb.1
  have em : g1 149 = g 149 ∧ g1 148 6 = g 148 6 := by
    rcases hm with ⟨-, -, rfl⟩ | ⟨-, -, rfl⟩ | ⟨-, p, i, -, -, -, i1, -, rfl⟩
    · exact ⟨rfl, rfl⟩
    · exact ⟨rfl, rfl⟩
    · refine ⟨?_, ?_⟩
      · funext j
        rw [fu_nc (by decide)]
        exact (cNote_hi (by decide)).trans ((fu_nc (by decide)).trans ((fu_nc (by decide)).trans (cRem_hi i1 (by decide))))
      · rw [fu_nc (by decide)]
        exact (cNote_hi (by decide)).trans ((fu_nc (by decide)).trans ((fu_nc (by decide)).trans (cRem_hi i1 (by decide))))
  have mb1 : mBd g1 := by
    unfold mBd at mb ⊢
    rw [em.1, em.2]
    exact mb
  refine sp_mleave ha mb1 (fun t => ?_) (fun p e1 e2 e3' => ?_) (fun p e1 e2 e3' e4 e5 => ?_)
  all_goals simp only [em.1] at *
  · rcases hm with ⟨rfl, c, rfl⟩ | ⟨rfl, c, rfl⟩ | ⟨rfl, p, i, q1, q2, q3, q4, q5, rfl⟩
    · exact PMa_no hi (by decide)
    · obtain ⟨p, c1, c2, c3⟩ := c; exfalso; omega
    · exfalso; omega
  · have q6 := eq p (by omega)
    rcases hm with ⟨rfl, c, rfl⟩ | ⟨rfl, c, rfl⟩ | ⟨rfl, p', i, q1, q2, q3, q4, q5, rfl⟩
    · exfalso; omega
    · exact PMa_no hi (by decide)
    · have pp : p = p' := by omega
      subst pp
      exfalso; omega
  · have hp8 : p < 8 := by omega
    have q6 := eq p hp8
    have bw := mb.2.2.2.2 p hp8
    have b8 := mb.2.2.1
    have b9 := hB.2.1.2.2.2.1
    have bp := hB.2.2.2.1 p hp8
    rcases hm with ⟨rfl, c, rfl⟩ | ⟨rfl, c, rfl⟩ | ⟨rfl, p', i, q1, q2, q3, q4, q5, h1⟩
    · exfalso; omega
    · obtain ⟨p', c1, c2, c3⟩ := c
      have pp : p = p' := by omega
      subst pp
      exfalso; omega
    · have pp : p = p' := by omega
      subst pp
      have ev : tLeave (g 149) p 8 = g 16 8 - g 4 p := by unfold tLeave tIron; rw [tNote_hi (by decide), tU_ne (by omega), tU_ne (by omega), tU_eq, if_neg (by omega)]; omega
      have eE : ∀ c j, 148 ≤ c → (cNote 16 (fu (fu (cRem g i) 17 p 0) 16 8 (g 16 8 - g 4 p)) p 0 0) c j = g c j := fun c j k => (cNote_hi (by omega)).trans ((fu_nc (by omega)).trans ((fu_nc (by omega)).trans (cRem_hi q4 k)))
      obtain ⟨s1, s2, s3, s4, s5, s6⟩ := act_st (t' := tLeave (g 149) p) eE h1 rfl
      have hR := RMain_leave hi.1 hB.1.2.1.2 q4 q5 hp8 b9.1 b9.2 bw.1 b8.2 (by omega) (by omega) s1 s2
      have hL := act_LI hi hB eE (fun c j k k2 => (cNote_hi (by unfold fPk at k; omega)).trans ((fu_nc (by unfold fPk at k; omega)).trans ((fu_nc (by unfold fPk at k; omega)).trans (cRem_pk q4 k k2)))) h1 rfl (fun k hk => by unfold tLeave tIron; rw [tNote_hi (by omega), tU_ne (by omega), tU_ne (by omega), tU_ne (by omega)]) (by unfold tLeave tIron; exact RBd_n (RBd_c (RBd_u (RBd_i hi.2.1.1 (by split <;> omega) (by split <;> omega)) (by omega)) hp8 (by decide) (by decide))) hR
      refine ⟨rfl, _, rfl, ?_, hL, s5, fun _ => ?_, ?_⟩
      · rw [ev]
        unfold fR; omega
      · rw [h1, fu_eq, ev]
      · rw [s4, h1, fu_eq]
/-- what the class has done: home -/
def HM_home (g : Nat → Nat → Int) (a zc : Int) (g1 : Nat → Nat → Int) : Prop := (zc = 1 ∧ (¬ (0 ≤ a ∧ a < g 3 4)) ∧ g1 = g) ∨ (zc = 2 ∧ (∃ p : Nat, a = p ∧ (p : Int) < g 3 4 ∧ ¬ ((g 17 p ≠ -1 ∧ fbt (g 16 7) p ≠ 1) ∧ g 17 p = 0)) ∧ g1 = g) ∨ (zc = 0 ∧ ∃ p i : Nat, a = p ∧ (p : Int) < g 3 4 ∧ (g 17 p = 0 ∧ fbt (g 16 7) p ≠ 1) ∧ i < 12 ∧ i = ((g 0 17).toNat + 1) % 12 ∧ g1 = fu (fu (fu (fu (cNote 16 (cRem g i) p 2 0) 17 p (-1)) 20 p 0) 16 8 (if 9999 < g 16 8 + g 4 p then 9999 else g 16 8 + g 4 p)) 159 0 ((fJ ((if 9999 < g 16 8 + g 4 p then 9999 else g 16 8 + g 4 p)) - 4 : Nat) : Int))
theorem sp_w_home {a : Int} (hl : 1 ≤ W.lim) (ha : fR a) (hi : LI g) (hB : LB2 g) : fx W 1 3 154 0 [2, fI a, 1274, 7] [] g (fun k v g1 => k = 1 ∧ ∃ zc, v = fI zc ∧ 0 ≤ zc ∧ zc ≤ 3 ∧ HM_home g a zc g1) := by
  refine fx_rg (fun hg => ?_)
  have cb := LI_cBd hi hB
  have rT : ∀ c : Nat, f_al c 8 = true → ∀ p : Nat, p < 8 → fR (g c p) := fun c hc p hp => hgA hg 8 (c := c) (j := p) hc hp
  refine sp_wg_home (P := fun kd v g1 => (kd = 4 ∧ v = 0 ∧ (¬ (0 ≤ a ∧ a < g 3 4)) ∧ g1 = g) ∨ (kd = 6 ∧ v = 0 ∧ (∃ p : Nat, a = p ∧ (p : Int) < g 3 4 ∧ ¬ ((g 17 p ≠ -1 ∧ fbt (g 16 7) p ≠ 1) ∧ g 17 p = 0)) ∧ g1 = g) ∨ (kd = 1 ∧ ∃ p i : Nat, v = fI ((if 9999 < g 16 8 + g 4 p then 9999 else g 16 8 + g 4 p)) ∧ fR ((if 9999 < g 16 8 + g 4 p then 9999 else g 16 8 + g 4 p)) ∧ a = p ∧ (p : Int) < g 3 4 ∧ (g 17 p = 0 ∧ fbt (g 16 7) p ≠ 1) ∧ i < 12 ∧ i = ((g 0 17).toNat + 1) % 12 ∧ g1 = fu (fu (fu (cNote 16 (cRem g i) p 2 0) 17 p (-1)) 20 p 0) 16 8 (if 9999 < g 16 8 + g 4 p then 9999 else g 16 8 + g 4 p))) hl ?_ (fun kd v g1 hp => ?_)
  · refine sp_chome (Nat.le_refl 1) ha cb (fun t => Or.inl ⟨rfl, rfl, t, rfl⟩) (fun p e1 e2 e3 => Or.inr (Or.inl ⟨rfl, rfl, ⟨p, e1, e2, e3⟩, rfl⟩)) (fun p e1 e2 e3 e4 i i1 i2 => Or.inr (Or.inr ⟨rfl, p, i, rfl, ?_, e1, e2, ⟨e3, e4⟩, i1, i2, rfl⟩))
    have hp8 : p < 8 := by have := cb.1; omega
    have b8 := cb.2.2.2.2.2.2.1
    have bw := cb.2.2.2.2.2.2.2.1 p hp8
    have bp := cb.2.2.2.2.2.2.2.2 p hp8
    unfold fR; split <;> omega
  · rcases hp with ⟨rfl, rfl, c, rfl⟩ | ⟨rfl, rfl, c, rfl⟩ | ⟨rfl, p, i, rfl, q0, q1, q2, q3, q4, q5, rfl⟩
    · exact Or.inr (Or.inl ⟨rfl, rfl, 1, rfl, by decide, by decide, Or.inl ⟨rfl, c, rfl⟩⟩)
    · exact Or.inr (Or.inr ⟨rfl, rfl, 2, rfl, by decide, by decide, Or.inr (Or.inl ⟨rfl, c, rfl⟩)⟩)
    · exact Or.inl ⟨rfl, _, rfl, q0, rfl, 0, rfl, by decide, by decide, Or.inr (Or.inr ⟨rfl, p, i, q1, q2, q3, q4, q5, rfl⟩)⟩
theorem sp_r_home {a zc : Int} {g1 : Nat → Nat → Int} (ha : fR a) (hi : LI g) (hB : LB2 g) (hm : HM_home g a zc g1) : fx W r 3 323 0 [1186, fI a] [] g1 (PMa g1 zc) := by
  have mb := LI_mBd hi hB
  have cb := LI_cBd hi hB
  have hH := hi.1.2.1
  have hT := hi.1.2.2.1.1
  have e3 : g 3 4 = g 149 3 := hH.1
  have e8 : g 16 8 = g 149 8 := hT.2.2.2.2.2.1
  have eq : ∀ p : Nat, p < 8 → g 17 p = g 149 (12 + 7 * p) ∧ fbt (g 16 7) p = g 149 (17 + 7 * p) ∧ g 4 p = g 149 (14 + 7 * p) ∧ g 18 p = g 149 (13 + 7 * p) ∧ g 19 p = g 149 (16 + 7 * p) := fun p hp => ⟨hT.1 p hp, hT.2.2.2.2.1 p hp, hH.2.2.2.2.2.2.1 p hp, hT.2.1 p hp, hT.2.2.1 p hp⟩
  have b3 := mb.1
  have em : g1 149 = g 149 ∧ g1 148 6 = g 148 6 := by
    rcases hm with ⟨-, -, rfl⟩ | ⟨-, -, rfl⟩ | ⟨-, p, i, -, -, -, i1, -, rfl⟩
    · exact ⟨rfl, rfl⟩
    · exact ⟨rfl, rfl⟩
    · refine ⟨?_, ?_⟩
      · funext j
        rw [fu_nc (by decide)]
        exact (fu_nc (by decide)).trans ((fu_nc (by decide)).trans ((fu_nc (by decide)).trans ((cNote_hi (by decide)).trans (cRem_hi i1 (by decide)))))
      · rw [fu_nc (by decide)]
        exact (fu_nc (by decide)).trans ((fu_nc (by decide)).trans ((fu_nc (by decide)).trans ((cNote_hi (by decide)).trans (cRem_hi i1 (by decide)))))
  have mb1 : mBd g1 := by
    unfold mBd at mb ⊢
    rw [em.1, em.2]
    exact mb
  refine sp_mhome ha mb1 (fun t => ?_) (fun p e1 e2 e3' => ?_) (fun p e1 e2 e3' e4 => ?_)
  all_goals simp only [em.1] at *
  · rcases hm with ⟨rfl, c, rfl⟩ | ⟨rfl, c, rfl⟩ | ⟨rfl, p, i, q1, q2, q3, q4, q5, rfl⟩
    · exact PMa_no hi (by decide)
    · obtain ⟨p, c1, c2, c3⟩ := c; exfalso; omega
    · exfalso; omega
  · have q6 := eq p (by omega)
    rcases hm with ⟨rfl, c, rfl⟩ | ⟨rfl, c, rfl⟩ | ⟨rfl, p', i, q1, q2, q3, q4, q5, rfl⟩
    · exfalso; omega
    · exact PMa_no hi (by decide)
    · have pp : p = p' := by omega
      subst pp
      exfalso; omega
  · have hp8 : p < 8 := by omega
    have q6 := eq p hp8
    have bw := mb.2.2.2.2 p hp8
    have b8 := mb.2.2.1
    have b9 := hB.2.1.2.2.2.1
    have bp := hB.2.2.2.1 p hp8
    rcases hm with ⟨rfl, c, rfl⟩ | ⟨rfl, c, rfl⟩ | ⟨rfl, p', i, q1, q2, q3, q4, q5, h1⟩
    · exfalso; omega
    · obtain ⟨p', c1, c2, c3⟩ := c
      have pp : p = p' := by omega
      subst pp
      exfalso; omega
    · have pp : p = p' := by omega
      subst pp
      have ev : tHome (g 149) p 8 = (if 9999 < g 16 8 + g 4 p then 9999 else g 16 8 + g 4 p) := by unfold tHome tIron; rw [tNote_hi (by decide), tU_ne (by omega), tU_ne (by omega), tU_eq, e8, q6.2.2.1]
      have eE : ∀ c j, 148 ≤ c → (fu (fu (fu (cNote 16 (cRem g i) p 2 0) 17 p (-1)) 20 p 0) 16 8 (if 9999 < g 16 8 + g 4 p then 9999 else g 16 8 + g 4 p)) c j = g c j := fun c j k => (fu_nc (by omega)).trans ((fu_nc (by omega)).trans ((fu_nc (by omega)).trans ((cNote_hi (by omega)).trans (cRem_hi q4 k))))
      obtain ⟨s1, s2, s3, s4, s5, s6⟩ := act_st (t' := tHome (g 149) p) eE h1 rfl
      have hR := RMain_home hi.1 hB.1.2.1.2 q4 q5 hp8 b9.1 b9.2 (by have := fbt_01 (g 16 7) p; omega) s1 s2
      have hL := act_LI hi hB eE (fun c j k k2 => (fu_nc (by unfold fPk at k; omega)).trans ((fu_nc (by unfold fPk at k; omega)).trans ((fu_nc (by unfold fPk at k; omega)).trans ((cNote_hi (by unfold fPk at k; omega)).trans (cRem_pk q4 k k2))))) h1 rfl (fun k hk => by unfold tHome tIron; rw [tNote_hi (by omega), tU_ne (by omega), tU_ne (by omega), tU_ne (by omega)]) (by unfold tHome tIron; exact RBd_n (RBd_c (RBd_u (RBd_i hi.2.1.1 (by split <;> omega) (by split <;> omega)) (by omega)) hp8 (by decide) (by decide))) hR
      refine ⟨rfl, _, rfl, ?_, hL, s5, fun _ => ?_, ?_⟩
      · rw [ev]
        unfold fR; split <;> omega
      · rw [h1, fu_eq, ev]
      · rw [s4, h1, fu_eq]
/-- what the class has done: rise -/
def HM_rise (g : Nat → Nat → Int) (a zc : Int) (g1 : Nat → Nat → Int) : Prop := (zc = 1 ∧ (¬ (0 ≤ a ∧ a < g 3 4)) ∧ g1 = g) ∨ (zc = 2 ∧ (∃ p : Nat, a = p ∧ (p : Int) < g 3 4 ∧ fbt (g 16 7) p ≠ 1) ∧ g1 = g) ∨ (zc = 0 ∧ ∃ p i : Nat, a = p ∧ (p : Int) < g 3 4 ∧ (fbt (g 16 7) p = 1) ∧ i < 12 ∧ i = ((g 0 17).toNat + 1) % 12 ∧ g1 = fu (fu (fu (fu (cNote 16 (cRem g i) p 2 (g 17 p)) 16 7 (fop 3 (g 16 7) (fop 5 (fop 6 1 (p : Int)) (-1)))) 17 p (-1)) 20 p 0) 159 0 ((fJ (g 17 p) - 4 : Nat) : Int))
theorem sp_w_rise {a : Int} (hl : 1 ≤ W.lim) (ha : fR a) (hi : LI g) (hB : LB2 g) : fx W 1 3 169 0 [2, fI a, 1274, 7] [] g (fun k v g1 => k = 1 ∧ ∃ zc, v = fI zc ∧ 0 ≤ zc ∧ zc ≤ 3 ∧ HM_rise g a zc g1) := by
  refine fx_rg (fun hg => ?_)
  have cb := LI_cBd hi hB
  have rT : ∀ c : Nat, f_al c 8 = true → ∀ p : Nat, p < 8 → fR (g c p) := fun c hc p hp => hgA hg 8 (c := c) (j := p) hc hp
  refine sp_wg_rise (P := fun kd v g1 => (kd = 4 ∧ v = 0 ∧ (¬ (0 ≤ a ∧ a < g 3 4)) ∧ g1 = g) ∨ (kd = 6 ∧ v = 0 ∧ (∃ p : Nat, a = p ∧ (p : Int) < g 3 4 ∧ fbt (g 16 7) p ≠ 1) ∧ g1 = g) ∨ (kd = 1 ∧ ∃ p i : Nat, v = fI (g 17 p) ∧ fR (g 17 p) ∧ a = p ∧ (p : Int) < g 3 4 ∧ (fbt (g 16 7) p = 1) ∧ i < 12 ∧ i = ((g 0 17).toNat + 1) % 12 ∧ g1 = fu (fu (fu (cNote 16 (cRem g i) p 2 (g 17 p)) 16 7 (fop 3 (g 16 7) (fop 5 (fop 6 1 (p : Int)) (-1)))) 17 p (-1)) 20 p 0)) hl ?_ (fun kd v g1 hp => ?_)
  · refine sp_crise (Nat.le_refl 1) ha cb (fun t => Or.inl ⟨rfl, rfl, t, rfl⟩) (fun p e1 e2 e3 => Or.inr (Or.inl ⟨rfl, rfl, ⟨p, e1, e2, e3⟩, rfl⟩)) (fun p e1 e2 e3 => ?_) (fun p e1 e2 e3 i i1 i2 => Or.inr (Or.inr ⟨rfl, p, i, rfl, ?_, e1, e2, e3, i1, i2, rfl⟩))
    · have hp8 : p < 8 := by have := cb.1; omega
      have hT := hi.1.2.2.1.1
      have i2 := hi.1.2.2.2.1.2.1 p hp8
      have e4 : fbt (g 16 7) p = g 149 (17 + 7 * p) := hT.2.2.2.2.1 p hp8
      have e5 : g 17 p = g 149 (12 + 7 * p) := hT.1 p hp8
      have bp := cb.2.2.2.2.2.2.2.2 p hp8
      rw [← e4, ← e5] at i2
      have := i2 (by omega)
      omega
    · have hp8 : p < 8 := by have := cb.1; omega
      exact rT _ (by decide +kernel) p hp8
  · rcases hp with ⟨rfl, rfl, c, rfl⟩ | ⟨rfl, rfl, c, rfl⟩ | ⟨rfl, p, i, rfl, q0, q1, q2, q3, q4, q5, rfl⟩
    · exact Or.inr (Or.inl ⟨rfl, rfl, 1, rfl, by decide, by decide, Or.inl ⟨rfl, c, rfl⟩⟩)
    · exact Or.inr (Or.inr ⟨rfl, rfl, 2, rfl, by decide, by decide, Or.inr (Or.inl ⟨rfl, c, rfl⟩)⟩)
    · exact Or.inl ⟨rfl, _, rfl, q0, rfl, 0, rfl, by decide, by decide, Or.inr (Or.inr ⟨rfl, p, i, q1, q2, q3, q4, q5, rfl⟩)⟩
theorem sp_r_rise {a zc : Int} {g1 : Nat → Nat → Int} (hrT : ∀ c : Nat, f_al c 8 = true → ∀ p : Nat, p < 8 → fR (g c p)) (ha : fR a) (hi : LI g) (hB : LB2 g) (hm : HM_rise g a zc g1) : fx W r 2 332 0 [1186, fI a, 7] [] g1 (PMa g1 zc) := by
  have mb := LI_mBd hi hB
  have cb := LI_cBd hi hB
  have hH := hi.1.2.1
  have hT := hi.1.2.2.1.1
  have e3 : g 3 4 = g 149 3 := hH.1
  have e8 : g 16 8 = g 149 8 := hT.2.2.2.2.2.1
  have eq : ∀ p : Nat, p < 8 → g 17 p = g 149 (12 + 7 * p) ∧ fbt (g 16 7) p = g 149 (17 + 7 * p) ∧ g 4 p = g 149 (14 + 7 * p) ∧ g 18 p = g 149 (13 + 7 * p) ∧ g 19 p = g 149 (16 + 7 * p) := fun p hp => ⟨hT.1 p hp, hT.2.2.2.2.1 p hp, hH.2.2.2.2.2.2.1 p hp, hT.2.1 p hp, hT.2.2.1 p hp⟩
  have b3 := mb.1
  have em : g1 149 = g 149 ∧ g1 148 6 = g 148 6 := by
    rcases hm with ⟨-, -, rfl⟩ | ⟨-, -, rfl⟩ | ⟨-, p, i, -, -, -, i1, -, rfl⟩
    · exact ⟨rfl, rfl⟩
    · exact ⟨rfl, rfl⟩
    · refine ⟨?_, ?_⟩
      · funext j
        rw [fu_nc (by decide)]
        exact (fu_nc (by decide)).trans ((fu_nc (by decide)).trans ((fu_nc (by decide)).trans ((cNote_hi (by decide)).trans (cRem_hi i1 (by decide)))))
      · rw [fu_nc (by decide)]
        exact (fu_nc (by decide)).trans ((fu_nc (by decide)).trans ((fu_nc (by decide)).trans ((cNote_hi (by decide)).trans (cRem_hi i1 (by decide)))))
  have mb1 : mBd g1 := by
    unfold mBd at mb ⊢
    rw [em.1, em.2]
    exact mb
  refine sp_mrise ha mb1 (fun t => ?_) (fun p e1 e2 e3' => ?_) (fun p e1 e2 e3' => ?_)
  all_goals simp only [em.1] at *
  · rcases hm with ⟨rfl, c, rfl⟩ | ⟨rfl, c, rfl⟩ | ⟨rfl, p, i, q1, q2, q3, q4, q5, rfl⟩
    · exact PMa_no hi (by decide)
    · obtain ⟨p, c1, c2, c3⟩ := c; exfalso; omega
    · exfalso; omega
  · have q6 := eq p (by omega)
    rcases hm with ⟨rfl, c, rfl⟩ | ⟨rfl, c, rfl⟩ | ⟨rfl, p', i, q1, q2, q3, q4, q5, rfl⟩
    · exfalso; omega
    · exact PMa_no hi (by decide)
    · have pp : p = p' := by omega
      subst pp
      exfalso; omega
  · have hp8 : p < 8 := by omega
    have q6 := eq p hp8
    have bw := mb.2.2.2.2 p hp8
    have b8 := mb.2.2.1
    have b9 := hB.2.1.2.2.2.1
    have bp := hB.2.2.2.1 p hp8
    rcases hm with ⟨rfl, c, rfl⟩ | ⟨rfl, c, rfl⟩ | ⟨rfl, p', i, q1, q2, q3, q4, q5, h1⟩
    · exfalso; omega
    · obtain ⟨p', c1, c2, c3⟩ := c
      have pp : p = p' := by omega
      subst pp
      exfalso; omega
    · have pp : p = p' := by omega
      subst pp
      have ev : g 149 (12 + 7 * p) = g 17 p := by omega
      have eE : ∀ c j, 148 ≤ c → (fu (fu (fu (cNote 16 (cRem g i) p 2 (g 17 p)) 16 7 (fop 3 (g 16 7) (fop 5 (fop 6 1 (p : Int)) (-1)))) 17 p (-1)) 20 p 0) c j = g c j := fun c j k => (fu_nc (by omega)).trans ((fu_nc (by omega)).trans ((fu_nc (by omega)).trans ((cNote_hi (by omega)).trans (cRem_hi q4 k))))
      obtain ⟨s1, s2, s3, s4, s5, s6⟩ := act_st (t' := tRise (g 149) p) eE h1 rfl
      have hR := RMain_rise hi.1 hB.1.2.1.2 q4 q5 hp8 b9.1 b9.2 (by have := hi.1.2.2.2.1.2.1 p hp8 (by omega); have := bp.1; omega) (by have := bp.2; omega) s1 s2
      have hL := act_LI hi hB eE (fun c j k k2 => (fu_nc (by unfold fPk at k; omega)).trans ((fu_nc (by unfold fPk at k; omega)).trans ((fu_nc (by unfold fPk at k; omega)).trans ((cNote_hi (by unfold fPk at k; omega)).trans (cRem_pk q4 k k2))))) h1 rfl (fun k hk => by unfold tRise; rw [tNote_hi (by omega), tU_ne (by omega), tU_ne (by omega), tU_ne (by omega)]) (by unfold tRise; exact RBd_n (RBd_c (RBd_u (RBd_u hi.2.1.1 (by omega)) (by omega)) hp8 (by decide) (by decide))) hR
      refine ⟨rfl, _, rfl, ?_, hL, s5, fun _ => ?_, ?_⟩
      · rw [ev]
        exact hrT _ (by decide +kernel) p hp8
      · rw [h1, fu_eq, ev]
      · rw [s4, h1, fu_eq]
/-- what the class has done: vote -/
def HM_vote (g : Nat → Nat → Int) (a b zc : Int) (g1 : Nat → Nat → Int) : Prop := (zc = 1 ∧ (¬ (0 ≤ a ∧ a < g 3 4)) ∧ g1 = g) ∨ (zc = 2 ∧ ((0 ≤ a ∧ a < g 3 4) ∧ ¬ (0 ≤ b ∧ b ≤ 20)) ∧ g1 = g) ∨ (zc = 0 ∧ ∃ p i : Nat, a = p ∧ (p : Int) < g 3 4 ∧ (0 ≤ b ∧ b ≤ 20) ∧ i < 12 ∧ i = ((g 0 17).toNat + 1) % 12 ∧ g1 = fu (fu (cRem g i) 18 p b) 159 0 ((fJ (g 18 p) - 4 : Nat) : Int))
theorem sp_w_vote {a b : Int} (hl : 1 ≤ W.lim) (ha : fR a) (hb : fR b) (hi : LI g) (hB : LB2 g) : fx W 1 3 171 0 [2, fI a, fI b, 1274, 7] [] g (fun k v g1 => k = 1 ∧ ∃ zc, v = fI zc ∧ 0 ≤ zc ∧ zc ≤ 3 ∧ HM_vote g a b zc g1) := by
  refine fx_rg (fun hg => ?_)
  have cb := LI_cBd hi hB
  have rT : ∀ c : Nat, f_al c 8 = true → ∀ p : Nat, p < 8 → fR (g c p) := fun c hc p hp => hgA hg 8 (c := c) (j := p) hc hp
  refine sp_wg_vote (P := fun kd v g1 => (kd = 4 ∧ v = 0 ∧ (¬ (0 ≤ a ∧ a < g 3 4)) ∧ g1 = g) ∨ (kd = 2 ∧ v = 0 ∧ ((0 ≤ a ∧ a < g 3 4) ∧ ¬ (0 ≤ b ∧ b ≤ 20)) ∧ g1 = g) ∨ (kd = 1 ∧ ∃ p i : Nat, v = fI (g 18 p) ∧ fR (g 18 p) ∧ a = p ∧ (p : Int) < g 3 4 ∧ (0 ≤ b ∧ b ≤ 20) ∧ i < 12 ∧ i = ((g 0 17).toNat + 1) % 12 ∧ g1 = fu (cRem g i) 18 p b)) hl ?_ (fun kd v g1 hp => ?_)
  · refine sp_cvote (Nat.le_refl 1) ha hb cb (fun t => Or.inl ⟨rfl, rfl, t, rfl⟩) (fun t u => Or.inr (Or.inl ⟨rfl, rfl, ⟨t, u⟩, rfl⟩)) (fun p e1 e2 e3 e4 i i1 i2 => Or.inr (Or.inr ⟨rfl, p, i, rfl, ?_, e1, e2, ⟨e3, e4⟩, i1, i2, rfl⟩))
    have hp8 : p < 8 := by have := cb.1; omega
    exact rT _ (by decide +kernel) p hp8
  · rcases hp with ⟨rfl, rfl, c, rfl⟩ | ⟨rfl, rfl, c, rfl⟩ | ⟨rfl, p, i, rfl, q0, q1, q2, q3, q4, q5, rfl⟩
    · exact Or.inr (Or.inl ⟨rfl, rfl, 1, rfl, by decide, by decide, Or.inl ⟨rfl, c, rfl⟩⟩)
    · exact Or.inr (Or.inr ⟨rfl, rfl, 2, rfl, by decide, by decide, Or.inr (Or.inl ⟨rfl, c, rfl⟩)⟩)
    · exact Or.inl ⟨rfl, _, rfl, q0, rfl, 0, rfl, by decide, by decide, Or.inr (Or.inr ⟨rfl, p, i, q1, q2, q3, q4, q5, rfl⟩)⟩
theorem sp_r_vote {a b zc : Int} {g1 : Nat → Nat → Int} (hrT : ∀ c : Nat, f_al c 8 = true → ∀ p : Nat, p < 8 → fR (g c p)) (ha : fR a) (hb : fR b) (hi : LI g) (hB : LB2 g) (hm : HM_vote g a b zc g1) : fx W r 2 333 0 [1186, fI a, fI b] [] g1 (PMa g1 zc) := by
  have mb := LI_mBd hi hB
  have cb := LI_cBd hi hB
  have hH := hi.1.2.1
  have hT := hi.1.2.2.1.1
  have e3 : g 3 4 = g 149 3 := hH.1
  have e8 : g 16 8 = g 149 8 := hT.2.2.2.2.2.1
  have eq : ∀ p : Nat, p < 8 → g 17 p = g 149 (12 + 7 * p) ∧ fbt (g 16 7) p = g 149 (17 + 7 * p) ∧ g 4 p = g 149 (14 + 7 * p) ∧ g 18 p = g 149 (13 + 7 * p) ∧ g 19 p = g 149 (16 + 7 * p) := fun p hp => ⟨hT.1 p hp, hT.2.2.2.2.1 p hp, hH.2.2.2.2.2.2.1 p hp, hT.2.1 p hp, hT.2.2.1 p hp⟩
  have b3 := mb.1
  have em : g1 149 = g 149 ∧ g1 148 6 = g 148 6 := by
    rcases hm with ⟨-, -, rfl⟩ | ⟨-, -, rfl⟩ | ⟨-, p, i, -, -, -, i1, -, rfl⟩
    · exact ⟨rfl, rfl⟩
    · exact ⟨rfl, rfl⟩
    · refine ⟨?_, ?_⟩
      · funext j
        rw [fu_nc (by decide)]
        exact (fu_nc (by decide)).trans (cRem_hi i1 (by decide))
      · rw [fu_nc (by decide)]
        exact (fu_nc (by decide)).trans (cRem_hi i1 (by decide))
  have mb1 : mBd g1 := by
    unfold mBd at mb ⊢
    rw [em.1, em.2]
    exact mb
  refine sp_mvote ha hb mb1 (fun t => ?_) (fun t u => ?_) (fun p e1 e2 e3' e4 => ?_)
  all_goals simp only [em.1] at *
  · rcases hm with ⟨rfl, c, rfl⟩ | ⟨rfl, c, rfl⟩ | ⟨rfl, p, i, q1, q2, q3, q4, q5, rfl⟩
    · exact PMa_no hi (by decide)
    · exfalso; omega
    · exfalso; omega
  · rcases hm with ⟨rfl, c, rfl⟩ | ⟨rfl, c, rfl⟩ | ⟨rfl, p', i, q1, q2, q3, q4, q5, rfl⟩
    · exfalso; omega
    · exact PMa_no hi (by decide)
    · exfalso; omega
  · have hp8 : p < 8 := by omega
    have q6 := eq p hp8
    have bw := mb.2.2.2.2 p hp8
    have b8 := mb.2.2.1
    have b9 := hB.2.1.2.2.2.1
    have bp := hB.2.2.2.1 p hp8
    rcases hm with ⟨rfl, c, rfl⟩ | ⟨rfl, c, rfl⟩ | ⟨rfl, p', i, q1, q2, q3, q4, q5, h1⟩
    · exfalso; omega
    · exfalso; omega
    · have pp : p = p' := by omega
      subst pp
      have ev : g 149 (13 + 7 * p) = g 18 p := by omega
      have eE : ∀ c j, 148 ≤ c → (fu (cRem g i) 18 p b) c j = g c j := fun c j k => (fu_nc (by omega)).trans (cRem_hi q4 k)
      obtain ⟨s1, s2, s3, s4, s5, s6⟩ := act_st (t' := tU (g 149) (12 + 7 * p + 1) b) eE h1 rfl
      have hR := RMain_set hi.1 hB.1.2.1.2 q4 q5 hp8 (k := 2) (w := 1) (Or.inl ⟨rfl, rfl⟩) s1 s2
      have hL := act_LI hi hB eE (fun c j k k2 => (fu_nc (by unfold fPk at k; omega)).trans (cRem_pk q4 k k2)) h1 rfl (fun k hk => by rw [tU_ne (by omega)]) (by exact RBd_v hi.2.1.1 hp8 (by omega) (by omega)) hR
      refine ⟨rfl, _, rfl, ?_, hL, s5, fun _ => ?_, ?_⟩
      · rw [ev]
        exact hrT _ (by decide +kernel) p hp8
      · rw [h1, fu_eq, ev]
      · rw [s4, h1, fu_eq]
/-- what the class has done: promise -/
def HM_promise (g : Nat → Nat → Int) (a b zc : Int) (g1 : Nat → Nat → Int) : Prop := (zc = 1 ∧ (¬ ((0 ≤ a ∧ a < g 3 4) ∧ (b = -1 ∨ (0 ≤ b ∧ b < g 3 4)))) ∧ g1 = g) ∨ (zc = 2 ∧ ((0 ≤ a ∧ a < g 3 4) ∧ a = b) ∧ g1 = g) ∨ (zc = 0 ∧ ∃ p i : Nat, a = p ∧ (p : Int) < g 3 4 ∧ ((b = -1 ∨ (0 ≤ b ∧ b < g 3 4)) ∧ a ≠ b) ∧ i < 12 ∧ i = ((g 0 17).toNat + 1) % 12 ∧ g1 = fu (fu (cRem g i) 19 p b) 159 0 ((fJ (g 19 p) - 4 : Nat) : Int))
theorem sp_w_promise {a b : Int} (hl : 1 ≤ W.lim) (ha : fR a) (hb : fR b) (hi : LI g) (hB : LB2 g) : fx W 1 3 174 0 [2, fI a, fI b, 1274, 7] [] g (fun k v g1 => k = 1 ∧ ∃ zc, v = fI zc ∧ 0 ≤ zc ∧ zc ≤ 3 ∧ HM_promise g a b zc g1) := by
  refine fx_rg (fun hg => ?_)
  have cb := LI_cBd hi hB
  have rT : ∀ c : Nat, f_al c 8 = true → ∀ p : Nat, p < 8 → fR (g c p) := fun c hc p hp => hgA hg 8 (c := c) (j := p) hc hp
  refine sp_wg_promise (P := fun kd v g1 => (kd = 4 ∧ v = 0 ∧ (¬ ((0 ≤ a ∧ a < g 3 4) ∧ (b = -1 ∨ (0 ≤ b ∧ b < g 3 4)))) ∧ g1 = g) ∨ (kd = 2 ∧ v = 0 ∧ ((0 ≤ a ∧ a < g 3 4) ∧ a = b) ∧ g1 = g) ∨ (kd = 1 ∧ ∃ p i : Nat, v = fI (g 19 p) ∧ fR (g 19 p) ∧ a = p ∧ (p : Int) < g 3 4 ∧ ((b = -1 ∨ (0 ≤ b ∧ b < g 3 4)) ∧ a ≠ b) ∧ i < 12 ∧ i = ((g 0 17).toNat + 1) % 12 ∧ g1 = fu (cRem g i) 19 p b)) hl ?_ (fun kd v g1 hp => ?_)
  · refine sp_cpromise (Nat.le_refl 1) ha hb cb (fun t => Or.inl ⟨rfl, rfl, t, rfl⟩) (fun t u => Or.inr (Or.inl ⟨rfl, rfl, ⟨t, u⟩, rfl⟩)) (fun p e1 e2 e3 e4 i i1 i2 => Or.inr (Or.inr ⟨rfl, p, i, rfl, ?_, e1, e2, ⟨e3, e4⟩, i1, i2, rfl⟩))
    have hp8 : p < 8 := by have := cb.1; omega
    exact rT _ (by decide +kernel) p hp8
  · rcases hp with ⟨rfl, rfl, c, rfl⟩ | ⟨rfl, rfl, c, rfl⟩ | ⟨rfl, p, i, rfl, q0, q1, q2, q3, q4, q5, rfl⟩
    · exact Or.inr (Or.inl ⟨rfl, rfl, 1, rfl, by decide, by decide, Or.inl ⟨rfl, c, rfl⟩⟩)
    · exact Or.inr (Or.inr ⟨rfl, rfl, 2, rfl, by decide, by decide, Or.inr (Or.inl ⟨rfl, c, rfl⟩)⟩)
    · exact Or.inl ⟨rfl, _, rfl, q0, rfl, 0, rfl, by decide, by decide, Or.inr (Or.inr ⟨rfl, p, i, q1, q2, q3, q4, q5, rfl⟩)⟩
theorem sp_r_promise {a b zc : Int} {g1 : Nat → Nat → Int} (hrT : ∀ c : Nat, f_al c 8 = true → ∀ p : Nat, p < 8 → fR (g c p)) (ha : fR a) (hb : fR b) (hi : LI g) (hB : LB2 g) (hm : HM_promise g a b zc g1) : fx W r 2 335 0 [1186, fI a, fI b] [] g1 (PMa g1 zc) := by
  have mb := LI_mBd hi hB
  have cb := LI_cBd hi hB
  have hH := hi.1.2.1
  have hT := hi.1.2.2.1.1
  have e3 : g 3 4 = g 149 3 := hH.1
  have e8 : g 16 8 = g 149 8 := hT.2.2.2.2.2.1
  have eq : ∀ p : Nat, p < 8 → g 17 p = g 149 (12 + 7 * p) ∧ fbt (g 16 7) p = g 149 (17 + 7 * p) ∧ g 4 p = g 149 (14 + 7 * p) ∧ g 18 p = g 149 (13 + 7 * p) ∧ g 19 p = g 149 (16 + 7 * p) := fun p hp => ⟨hT.1 p hp, hT.2.2.2.2.1 p hp, hH.2.2.2.2.2.2.1 p hp, hT.2.1 p hp, hT.2.2.1 p hp⟩
  have b3 := mb.1
  have em : g1 149 = g 149 ∧ g1 148 6 = g 148 6 := by
    rcases hm with ⟨-, -, rfl⟩ | ⟨-, -, rfl⟩ | ⟨-, p, i, -, -, -, i1, -, rfl⟩
    · exact ⟨rfl, rfl⟩
    · exact ⟨rfl, rfl⟩
    · refine ⟨?_, ?_⟩
      · funext j
        rw [fu_nc (by decide)]
        exact (fu_nc (by decide)).trans (cRem_hi i1 (by decide))
      · rw [fu_nc (by decide)]
        exact (fu_nc (by decide)).trans (cRem_hi i1 (by decide))
  have mb1 : mBd g1 := by
    unfold mBd at mb ⊢
    rw [em.1, em.2]
    exact mb
  refine sp_mpromise ha hb mb1 (fun t => ?_) (fun t u => ?_) (fun p e1 e2 e3' e4 => ?_)
  all_goals simp only [em.1] at *
  · rcases hm with ⟨rfl, c, rfl⟩ | ⟨rfl, c, rfl⟩ | ⟨rfl, p, i, q1, q2, q3, q4, q5, rfl⟩
    · exact PMa_no hi (by decide)
    · exfalso; omega
    · exfalso; omega
  · rcases hm with ⟨rfl, c, rfl⟩ | ⟨rfl, c, rfl⟩ | ⟨rfl, p', i, q1, q2, q3, q4, q5, rfl⟩
    · exfalso; omega
    · exact PMa_no hi (by decide)
    · exfalso; omega
  · have hp8 : p < 8 := by omega
    have q6 := eq p hp8
    have bw := mb.2.2.2.2 p hp8
    have b8 := mb.2.2.1
    have b9 := hB.2.1.2.2.2.1
    have bp := hB.2.2.2.1 p hp8
    rcases hm with ⟨rfl, c, rfl⟩ | ⟨rfl, c, rfl⟩ | ⟨rfl, p', i, q1, q2, q3, q4, q5, h1⟩
    · exfalso; omega
    · exfalso; omega
    · have pp : p = p' := by omega
      subst pp
      have ev : g 149 (16 + 7 * p) = g 19 p := by omega
      have eE : ∀ c j, 148 ≤ c → (fu (cRem g i) 19 p b) c j = g c j := fun c j k => (fu_nc (by omega)).trans (cRem_hi q4 k)
      obtain ⟨s1, s2, s3, s4, s5, s6⟩ := act_st (t' := tU (g 149) (12 + 7 * p + 4) b) eE h1 rfl
      have hR := RMain_set hi.1 hB.1.2.1.2 q4 q5 hp8 (k := 3) (w := 4) (Or.inr ⟨rfl, rfl⟩) s1 s2
      have hL := act_LI hi hB eE (fun c j k k2 => (fu_nc (by unfold fPk at k; omega)).trans (cRem_pk q4 k k2)) h1 rfl (fun k hk => by rw [tU_ne (by omega)]) (by exact RBd_u hi.2.1.1 (by omega)) hR
      refine ⟨rfl, _, rfl, ?_, hL, s5, fun _ => ?_, ?_⟩
      · rw [ev]
        exact hrT _ (by decide +kernel) p hp8
      · rw [h1, fu_eq, ev]
      · rw [s4, h1, fu_eq]
end FIO
end
section
/-! fx: serving, nights, taking off keep all alike -/
theorem cRem_fs {g g' : Nat → Nat → Int} (hx : fFS g g') {i c j : Nat} (h1 : c ≠ 14) (h2 : c ≠ 15) : cRem g' i c j = cRem g i c j := by
  unfold cRem cpT
  simp only [fu_app, fcy_app, hx 0 _ (by decide) (by decide), hx 16 _ (by decide) (by decide), hx (16 + 1) _ (by decide) (by decide), hx (16 + 2) _ (by decide) (by decide), hx (16 + 3) _ (by decide) (by decide), hx (16 + 4) _ (by decide) (by decide), hx (16 + 5) _ (by decide) (by decide), hx c j h1 h2]
theorem mRem_rA {G G2 : Nat → Nat → Int} (h : rA G G2) : rN (mRem G) (mRem (fu G2 148 0 (G 148 0))) := fun c j a b d => by
  have e : ∀ c j, c ≠ 154 → ¬ (c = 148 ∧ (j = 9 ∨ j = 10 ∨ j = 11 ∨ j = 13 ∨ (15 ≤ j ∧ j ≤ 19))) → fu G2 148 0 (G 148 0) c j = G c j := fun c j h1 h2 => by
    by_cases t : c = 148 ∧ j = 0
    · obtain ⟨rfl, rfl⟩ := t
      rw [fu_eq]
    · rw [fu_ne t]
      exact h c j h1 h2
  have ea := e 148 6 (by decide) (by decide)
  unfold mRem mActs
  rw [ea]
  by_cases c1 : c = 152
  · rw [if_pos c1, if_pos c1]
    simp only [e 149 _ (by decide) (fun t => absurd t.1 (by decide)), e 152 _ (by decide) (fun t => absurd t.1 (by decide))]
  · rw [if_neg c1, if_neg c1]
    by_cases c2 : c = 148 ∧ j = 6
    · rw [if_pos c2, if_pos c2]
    · rw [if_neg c2, if_neg c2]
      exact e c j b d
/-- an act with asking and telling beside it keeps all alike -/
theorem act2_LI {g E g1 G' g2 : Nat → Nat → Int} {t' : Nat → Int} {z : Int} {i : Nat} (h : LI g) (b : LB2 g) (hi : i < 12) (hi2 : i = ((g 0 17).toNat + 1) % 12) (hE : ∀ c j, ¬ (16 ≤ c ∧ c ≤ 21) → c ≠ 14 → c ≠ 15 → E c j = cRem g i c j) (hT : RTb 16 E t') (hI : RIv t') (hB : RBd t') (ht : ∀ k, gHp k → t' k = g 149 k) (ht2 : ∀ k, k = 1 ∨ k = 2 ∨ (364 ≤ k ∧ k < 764) → t' k = g 149 k) (h1 : g1 = fu E 159 0 z) (x : rN (mRem (fu g1 148 0 0)) G') (h2 : g2 = frow G' t') : LI g2 ∧ g2 159 0 = z ∧ g2 148 0 = 0 := by
  have k0 : ∀ c j, 148 ≤ c → c ≠ 159 → ¬ (c = 148 ∧ j = 0) → fu g1 148 0 0 c j = g c j := fun c j a a2 d => by
    rw [fu_ne d, h1, fu_nc a2, hE c j (by omega) (by omega) (by omega), cRem_hi hi a]
  have lo : ∀ c j, c < 148 → g2 c j = E c j := fun c j hc => by
    rw [h2, frow_ne (by omega), x c j (by omega) (by omega) (by omega), mRem_ne (by omega) (by omega), fu_nc (by omega), h1, fu_nc (by omega)]
  have up : ∀ c j, 148 ≤ c → c ≠ 149 → c ≠ 154 → c ≠ 159 → ¬ (c = 148 ∧ (j = 0 ∨ j = 9 ∨ j = 10 ∨ j = 11 ∨ j = 13 ∨ (15 ≤ j ∧ j ≤ 19))) → g2 c j = mRem g c j := fun c j a a2 a3 a4 a5 => by
    rw [h2, frow_ne a2, x c j a2 a3 (by omega)]
    exact mRem_cg k0 a a4 (by omega)
  have row : g2 149 = t' := by rw [h2, frow_mm]
  have bA := b.2.1.1
  refine ⟨LI_act h (fun c j k => ?_) (fun k hk => by rw [row]; exact ht2 k hk) (RMain_act2 h.1 b.1.2.1.2 hi hi2 (fun c j k => ?_) (fun c j k => ?_) (fun k hk => by rw [row]; exact ht k hk) ?_ (by rw [row]; exact hI)) (RBs_rem h.2.1 bA (fun j => ?_) ?_ (by rw [row]; exact hB)), ?_, ?_⟩
  · by_cases hc : c < 148
    · rw [lo c j hc, hE c j (by unfold fPk at k; omega) (by unfold fPk at k; omega) (by unfold fPk at k; omega)]
      exact cRem_pk hi k hc
    · rw [up c j (by omega) (by unfold fPk at k; omega) (by unfold fPk at k; omega) (by unfold fPk at k; omega) (by unfold fPk at k; omega)]
      exact mRem_ne (by unfold fPk at k; omega) (by unfold fPk at k; omega)
  · rw [lo c j (by omega)]
    exact hE c j (by omega) (by omega) (by omega)
  · exact up c j (by omega) (by omega) (by omega) (by omega) (by omega)
  · rw [row]
    exact RTb_cg hT (fun j _ _ => lo _ _ (by decide)) (fun k j _ _ => lo _ _ (by omega)) (fun _ _ => rfl)
  · rw [up _ _ (by omega) (by omega) (by omega) (by omega) (by omega)]
    unfold mRem
    rw [if_pos rfl]
  · rw [up _ _ (by omega) (by omega) (by omega) (by omega) (by omega)]
    unfold mRem
    rw [if_neg (by decide), if_pos ⟨rfl, rfl⟩]
  · rw [h2, frow_ne (by decide), x _ _ (by decide) (by decide) (by decide), mRem_ne (by decide) (by decide), fu_nc (by decide), h1, fu_eq]
  · rw [h2, frow_ne (by decide), x _ _ (by decide) (by decide) (by decide), mRem_ne (by decide) (by decide), fu_eq]
theorem RBd_nf {t t' : Nat → Int} (h : RBd t) (n : NI t') (f : NF t t') : RBd t' := by
  obtain ⟨h1, h2, h3, h4⟩ := h
  refine ⟨by rw [f 7 (by decide)]; exact h1, by rw [f 8 (by decide)]; exact h2, fun p hp => ⟨?_, n.1.2.2.2.2.2.2.1 p hp, ?_⟩, by rw [f 0 (by decide)]; exact h4⟩
  · rw [f _ (by omega)]; exact (h3 p hp).1
  · rw [f _ (by omega)]; exact (h3 p hp).2.2
section FIP
variable {W : ax_W} {r : Nat} {g : Nat → Nat → Int} {Q : Nat → Nat → (Nat → Nat → Int) → Prop}
def HM_serve (g : Nat → Nat → Int) (a zc : Int) (g1 : Nat → Nat → Int) : Prop := (zc = 1 ∧ ¬ (0 ≤ a ∧ a < g 3 5) ∧ g1 = g) ∨ (zc = 0 ∧ (0 ≤ a ∧ a < g 3 5) ∧ ∃ segs i G, LwR (g 149) segs ∧ i < 12 ∧ i = ((g 0 17).toNat + 1) % 12 ∧ CT_table (cRem g i) (g 149) G (niT segs a true (g 149)) ∧ g1 = fu G 159 0 ((fJ (niN segs a (niW true (g 149))) - 4 : Nat) : Int))
theorem sp_w_serve {a : Int} (hl : 1 ≤ W.lim) (ha : fR a) (hi : LI g) (hB : LB2 g) : fx W 1 7 159 0 [2, fI a, 1274, 7] [] g (fun k v g1 => k = 1 ∧ ∃ zc, v = fI zc ∧ 0 ≤ zc ∧ zc ≤ 3 ∧ HM_serve g a zc g1) := by
  have cb := LI_cBd hi hB
  have hNI := LI_NI hi hB
  obtain ⟨segs, hR, hL⟩ := RLw_2 hi.2.2.1
  refine sp_wg_serve (P := fun kd v g1 => (kd = 4 ∧ v = 0 ∧ ¬ (0 ≤ a ∧ a < g 3 5) ∧ g1 = g) ∨ (kd = 1 ∧ (0 ≤ a ∧ a < g 3 5) ∧ v = fI (niN segs a (niW true (g 149))) ∧ ∃ i, i < 12 ∧ i = ((g 0 17).toNat + 1) % 12 ∧ CT_table (cRem g i) (g 149) g1 (niT segs a true (g 149)))) hl ?_ (fun kd v g1 hp => ?_)
  · exact sp_cserve (t := g 149) (Nat.le_refl 1) ha cb hB.1.2.1 hi.1.2.1 hi.1.2.2.1 hNI hL hR (fun t => Or.inl ⟨rfl, rfl, t, rfl⟩) (fun t i i1 i2 g' c => Or.inr ⟨rfl, t, rfl, i, i1, i2, c⟩)
  · rcases hp with ⟨rfl, rfl, c, rfl⟩ | ⟨rfl, c, rfl, i, i1, i2, c2⟩
    · exact Or.inr ⟨rfl, rfl, 1, rfl, by decide, by decide, Or.inl ⟨rfl, c, rfl⟩⟩
    · have nb := niN_b (segs := segs) (d := a) (niW_ok (dr := true) hNI).1
      exact Or.inl ⟨rfl, _, rfl, by unfold fR; omega, rfl, 0, rfl, by decide, by decide, Or.inr ⟨rfl, c, segs, i, g1, hR, i1, i2, c2, rfl⟩⟩
theorem sp_r_serve {a zc : Int} {g1 : Nat → Nat → Int} (ha : fR a) (hi : LI g) (hB : LB2 g) (hm : HM_serve g a zc g1) : fx W r 39 324 0 [1186, fI a] [] g1 (PMa g1 zc) := by
  have mb := LI_mBd hi hB
  have hNI := LI_NI hi hB
  have e4 : g 3 5 = g 149 4 := hi.1.2.1.2.1
  rcases hm with ⟨rfl, c, rfl⟩ | ⟨rfl, c, segs, i, G, hR, i1, i2, hC, h1⟩
  · obtain ⟨segs, hR, hL⟩ := RLw_2 hi.2.2.1
    exact sp_mserve ha mb.2.1 hNI hR (fun _ => PMa_no hi (by decide)) (fun t => absurd t (by omega))
  · have em : g1 149 = g 149 := by
      funext j
      rw [h1, fu_nc (by decide), hC.2.1 _ _ (by decide) (by decide) (by decide)]
      exact cRem_hi i1 (by decide)
    have ea : g1 148 6 = g 148 6 := by
      rw [h1, fu_nc (by decide), hC.2.1 _ _ (by decide) (by decide) (by decide)]
      exact cRem_hi i1 (by decide)
    refine sp_mserve (segs := segs) ha (by rw [ea]; exact mb.2.1) (by rw [em]; exact hNI) (by rw [em]; exact hR) (fun t => absurd c (by rw [em] at t; omega)) (fun t G' x => ?_)
    rw [em]
    obtain ⟨q1, q2, q3⟩ := act2_LI hi hB i1 i2 hC.2.1 hC.1 hC.2.2.1.2 (RBd_nf hi.2.1.1 hC.2.2.1 hC.2.2.2) (fun k hk => hC.2.2.2 k (by unfold gHp at hk; omega)) (fun k hk => hC.2.2.2 k (by omega)) h1 x rfl
    have nb := niN_b (segs := segs) (d := a) (niW_ok (dr := true) hNI).1
    exact ⟨rfl, _, rfl, by unfold fR; omega, q1, q3, fun _ => by rw [h1, fu_eq], by rw [q2, h1, fu_eq]⟩
def HM_nights (g : Nat → Nat → Int) (a zc : Int) (g1 : Nat → Nat → Int) : Prop := (zc = 1 ∧ ¬ (1 ≤ a ∧ a ≤ 60) ∧ g1 = g) ∨ (zc = 0 ∧ (1 ≤ a ∧ a ≤ 60) ∧ ∃ (segs : List (List Int × Int × Int)) (i n : Nat) (G : Nat → Nat → Int), a = n ∧ LwR (g 149) segs ∧ i < 12 ∧ i = ((g 0 17).toNat + 1) % 12 ∧ CT_table (cRem g i) (g 149) G (goL segs true n (g 149)) ∧ g1 = fu G 159 0 ((fJ (goN segs true n (g 149) 0) - 4 : Nat) : Int))
theorem sp_w_nights {a : Int} (hl : 1 ≤ W.lim) (ha : fR a) (hi : LI g) (hB : LB2 g) : fx W 1 8 176 0 [2, fI a, 1274, 7] [] g (fun k v g1 => k = 1 ∧ ∃ zc, v = fI zc ∧ 0 ≤ zc ∧ zc ≤ 3 ∧ HM_nights g a zc g1) := by
  have cb := LI_cBd hi hB
  have hNI := LI_NI hi hB
  obtain ⟨segs, hR, hL⟩ := RLw_2 hi.2.2.1
  refine sp_wg_nights (P := fun kd v g1 => (kd = 2 ∧ v = 0 ∧ ¬ (1 ≤ a ∧ a ≤ 60) ∧ g1 = g) ∨ (kd = 1 ∧ (1 ≤ a ∧ a ≤ 60) ∧ ∃ n : Nat, a = n ∧ v = fI (goN segs true n (g 149) 0) ∧ ∃ i, i < 12 ∧ i = ((g 0 17).toNat + 1) % 12 ∧ CT_table (cRem g i) (g 149) g1 (goL segs true n (g 149)))) hl ?_ (fun kd v g1 hp => ?_)
  · exact sp_cnights (t := g 149) (Nat.le_refl 1) ha cb hB.1.2.1 hi.1.2.1 hi.1.2.2.1 hNI hL hR (fun t => Or.inl ⟨rfl, rfl, t, rfl⟩) (fun n en t i i1 i2 g' c => Or.inr ⟨rfl, t, n, en, rfl, i, i1, i2, c⟩)
  · rcases hp with ⟨rfl, rfl, c, rfl⟩ | ⟨rfl, c, n, en, rfl, i, i1, i2, c2⟩
    · exact Or.inr ⟨rfl, rfl, 1, rfl, by decide, by decide, Or.inl ⟨rfl, c, rfl⟩⟩
    · have nb := goN_b (segs := segs) (dr := true) n (g 149) 0 hNI
      exact Or.inl ⟨rfl, _, rfl, by unfold fR; omega, rfl, 0, rfl, by decide, by decide, Or.inr ⟨rfl, c, segs, i, n, g1, en, hR, i1, i2, c2, rfl⟩⟩
theorem sp_r_nights {a zc : Int} {g1 : Nat → Nat → Int} (ha : fR a) (hi : LI g) (hB : LB2 g) (hm : HM_nights g a zc g1) : fx W r 40 336 0 [1186, fI a] [] g1 (PMa g1 zc) := by
  have mb := LI_mBd hi hB
  have hNI := LI_NI hi hB
  rcases hm with ⟨rfl, c, rfl⟩ | ⟨rfl, c, segs, i, n, G, en, hR, i1, i2, hC, h1⟩
  · obtain ⟨segs, hR, hL⟩ := RLw_2 hi.2.2.1
    exact sp_mnights ha mb.2.1 hNI hR (fun _ => PMa_no hi (by decide)) (fun _ _ t => absurd t c)
  · have em : g1 149 = g 149 := by
      funext j
      rw [h1, fu_nc (by decide), hC.2.1 _ _ (by decide) (by decide) (by decide)]
      exact cRem_hi i1 (by decide)
    have ea : g1 148 6 = g 148 6 := by
      rw [h1, fu_nc (by decide), hC.2.1 _ _ (by decide) (by decide) (by decide)]
      exact cRem_hi i1 (by decide)
    refine sp_mnights (segs := segs) ha (by rw [ea]; exact mb.2.1) (by rw [em]; exact hNI) (by rw [em]; exact hR) (fun t => absurd c t) (fun n' en' t G' x => ?_)
    have nn : n' = n := by omega
    subst nn
    rw [em]
    obtain ⟨q1, q2, q3⟩ := act2_LI hi hB i1 i2 hC.2.1 hC.1 hC.2.2.1.2 (RBd_nf hi.2.1.1 hC.2.2.1 hC.2.2.2) (fun k hk => hC.2.2.2 k (by unfold gHp at hk; omega)) (fun k hk => hC.2.2.2 k (by omega)) h1 x rfl
    have nb := goN_b (segs := segs) (dr := true) n' (g 149) 0 hNI
    exact ⟨rfl, _, rfl, by unfold fR; omega, q1, q3, fun _ => by rw [h1, fu_eq], by rw [q2, h1, fu_eq]⟩
def HM_off (g : Nat → Nat → Int) (a zc : Int) (g1 : Nat → Nat → Int) : Prop := ∃ segs, LwR (g 149) segs ∧ ((zc = 1 ∧ ¬ (0 ≤ a ∧ a < g 3 4) ∧ g1 = g) ∨ (zc = 2 ∧ (∃ p : Nat, a = p ∧ (p : Int) < g 3 4 ∧ ¬ (awT (g 149) p ∧ mMay (g 149) segs p)) ∧ fFS g g1) ∨ (zc = 0 ∧ ∃ (p i : Nat) (gf : Nat → Nat → Int), a = p ∧ (p : Int) < g 3 4 ∧ (awT (g 149) p ∧ mMay (g 149) segs p) ∧ fFS g gf ∧ i < 12 ∧ i = ((g 0 17).toNat + 1) % 12 ∧ g1 = fu (cNote 16 (fu (fu (cRem gf i) 16 7 (fop 4 (g 16 7) (fop 6 1 (p : Int)))) 16 8 (if 9999 < g 16 8 + g 4 p then 9999 else g 16 8 + g 4 p)) p 1 (g 17 p)) 159 0 ((fJ (if 9999 < g 16 8 + g 4 p then 9999 else g 16 8 + g 4 p) - 4 : Nat) : Int)))
theorem sp_w_off {a : Int} (hl : 1 ≤ W.lim) (ha : fR a) (hi : LI g) (hB : LB2 g) : fx W 1 5 167 0 [2, fI a, 1274, 7] [] g (fun k v g1 => k = 1 ∧ ∃ zc, v = fI zc ∧ 0 ≤ zc ∧ zc ≤ 3 ∧ HM_off g a zc g1) := by
  have cb := LI_cBd hi hB
  obtain ⟨segs, hR, hL⟩ := RLw_2 hi.2.2.1
  refine sp_wg_off (P := fun kd v g1 => (kd = 4 ∧ v = 0 ∧ ¬ (0 ≤ a ∧ a < g 3 4) ∧ g1 = g) ∨ (kd = 6 ∧ v = 0 ∧ (∃ p : Nat, a = p ∧ (p : Int) < g 3 4 ∧ ¬ (awT (g 149) p ∧ mMay (g 149) segs p)) ∧ fFS g g1) ∨ (kd = 1 ∧ ∃ (p i : Nat) (gf : Nat → Nat → Int), v = fI (if 9999 < g 16 8 + g 4 p then 9999 else g 16 8 + g 4 p) ∧ a = p ∧ (p : Int) < g 3 4 ∧ (awT (g 149) p ∧ mMay (g 149) segs p) ∧ fFS g gf ∧ i < 12 ∧ i = ((g 0 17).toNat + 1) % 12 ∧ g1 = cNote 16 (fu (fu (cRem gf i) 16 7 (fop 4 (g 16 7) (fop 6 1 (p : Int)))) 16 8 (if 9999 < g 16 8 + g 4 p then 9999 else g 16 8 + g 4 p)) p 1 (g 17 p))) hl ?_ (fun kd v g1 hp => ?_)
  · exact sp_coff (t := g 149) (segs := segs) (Nat.le_refl 1) ha cb hi.1.2.1 hi.1.2.2.1 hL hR (fun t => Or.inl ⟨rfl, rfl, t, rfl⟩) (fun p e1 e2 e3 g1 x1 => Or.inr (Or.inl ⟨rfl, rfl, ⟨p, e1, e2, e3⟩, x1⟩)) (fun p e1 e2 e3 e4 g1 x1 i i1 i2 => Or.inr (Or.inr ⟨rfl, p, i, g1, rfl, e1, e2, ⟨e3, e4⟩, x1, i1, i2, rfl⟩))
  · rcases hp with ⟨rfl, rfl, c, rfl⟩ | ⟨rfl, rfl, c, c2⟩ | ⟨rfl, p, i, gf, rfl, q1, q2, q3, q4, q5, q6, rfl⟩
    · exact Or.inr (Or.inl ⟨rfl, rfl, 1, rfl, by decide, by decide, segs, hR, Or.inl ⟨rfl, c, rfl⟩⟩)
    · exact Or.inr (Or.inr ⟨rfl, rfl, 2, rfl, by decide, by decide, segs, hR, Or.inr (Or.inl ⟨rfl, c, c2⟩)⟩)
    · have hp8 : p < 8 := by have := cb.1; omega
      have b8 := cb.2.2.2.2.2.2.1
      have bw := cb.2.2.2.2.2.2.2.1 p hp8
      exact Or.inl ⟨rfl, _, rfl, by unfold fR; split <;> omega, rfl, 0, rfl, by decide, by decide, segs, hR, Or.inr (Or.inr ⟨rfl, p, i, gf, q1, q2, q3, q4, q5, q6, rfl⟩)⟩
theorem LI_fs {g g' : Nat → Nat → Int} (h : LI g) (x : fFS g g') : LI g' := LI_cg h (fun c j k => x c j (by unfold RK at k; omega) (by unfold RK at k; omega)) (fun c j k _ _ => x c j (by unfold fPk at k; omega) (by unfold fPk at k; omega)) (by rw [x _ _ (by decide) (by decide), x 148 8 (by decide) (by decide)]; exact h.2.2.2.2.1)
theorem LI_rA {g g' : Nat → Nat → Int} (h : LI g) (x : rA g g') : LI g' := LI_cg h (fun c j k => x c j (by unfold RK at k; omega) (by unfold RK at k; omega)) (fun c j k _ _ => x c j (by unfold fPk at k; omega) (by unfold fPk at k; omega)) (by rw [x _ _ (by decide) (by decide), x 148 8 (by decide) (by decide)]; exact h.2.2.2.2.1)
theorem sp_r_off {a zc : Int} {g1 : Nat → Nat → Int} (ha : fR a) (hi : LI g) (hB : LB2 g) (hm : HM_off g a zc g1) : fx W r 37 331 0 [1186, fI a] [] g1 (PMa g1 zc) := by
  have mb := LI_mBd hi hB
  have hNI := LI_NI hi hB
  have hH := hi.1.2.1
  have hT := hi.1.2.2.1
  have e3 : g 3 4 = g 149 3 := hH.1
  have b3 := mb.1
  obtain ⟨segs, hR, hm⟩ := hm
  have em : g1 149 = g 149 ∧ g1 148 6 = g 148 6 := by
    rcases hm with ⟨-, -, rfl⟩ | ⟨-, -, x⟩ | ⟨-, p, i, gf, -, -, -, x, i1, -, rfl⟩
    · exact ⟨rfl, rfl⟩
    · exact ⟨funext (fun j => x _ _ (by decide) (by decide)), x _ _ (by decide) (by decide)⟩
    · refine ⟨?_, ?_⟩
      · funext j
        rw [fu_nc (by decide), cNote_hi (by decide), fu_nc (by decide), fu_nc (by decide), cRem_hi i1 (by decide)]
        exact x _ _ (by decide) (by decide)
      · rw [fu_nc (by decide), cNote_hi (by decide), fu_nc (by decide), fu_nc (by decide), cRem_hi i1 (by decide)]
        exact x _ _ (by decide) (by decide)
  have mb1 : mBd g1 := by
    unfold mBd at mb ⊢
    rw [em.1, em.2]
    exact mb
  refine sp_moff (segs := segs) ha mb1 (by rw [em.1]; exact hNI) (by rw [em.1]; exact hR) (fun t => ?_) (fun p e1 e2 e4 gr x => ?_) (fun p e1 e2 e4 e5 gr x => ?_)
  all_goals simp only [em.1] at *
  · rcases hm with ⟨rfl, c, rfl⟩ | ⟨rfl, ⟨p, c1, c2, c3⟩, x⟩ | ⟨rfl, p, i, gf, q1, q2, q3, q4, q5, q6, rfl⟩
    · exact PMa_no hi (by decide)
    · exfalso; omega
    · exfalso; omega
  · rcases hm with ⟨rfl, c, rfl⟩ | ⟨rfl, ⟨p', c1, c2, c3⟩, x1⟩ | ⟨rfl, p', i, gf, q1, q2, q3, q4, q5, q6, rfl⟩
    · exfalso; omega
    · refine ⟨rfl, 0, rfl, by unfold fR; decide, LI_th (LI_rA (LI_th (LI_fs hi x1)) x), fu_eq _ _ _ _, fun t => absurd t (by decide), ?_⟩
      rw [fu_nc (by decide), x _ _ (by decide) (by decide), fu_nc (by decide)]
    · have pp : p = p' := by omega
      subst pp
      exact absurd q3 e4
  · have hp8 : p < 8 := by omega
    have bw := mb.2.2.2.2 p hp8
    have b8 := mb.2.2.1
    have b9 := hB.2.1.2.2.2.1
    have bp := hB.2.2.2.1 p hp8
    rcases hm with ⟨rfl, c, rfl⟩ | ⟨rfl, ⟨p', c1, c2, c3⟩, x1⟩ | ⟨rfl, p', i, gf, q1, q2, q3, q4, q5, q6, h1⟩
    · exfalso; omega
    · have pp : p = p' := by omega
      subst pp
      exact absurd ⟨e4, e5⟩ c3
    · have pp : p = p' := by omega
      subst pp
      have ew : g 4 p = g 149 (14 + 7 * p) := hH.2.2.2.2.2.2.1 p hp8
      have e8 : g 16 8 = g 149 8 := hT.1.2.2.2.2.2.1
      have epl : g 17 p = g 149 (12 + 7 * p) := hT.1.1 p hp8
      have awp := e4.1
      rw [e8, ew, epl] at h1
      have tt : tOff (g 149) p = tNote (tU (tU (g 149) (12 + 7 * p + 5) 1) 8 (if 9999 < g 149 8 + g 149 (14 + 7 * p) then 9999 else g 149 8 + g 149 (14 + 7 * p))) p 1 (g 149 (12 + 7 * p)) := by
        unfold tOff tIron
        rw [tU_ne (by omega)]
      have ev : tOff (g 149) p 8 = if 9999 < g 149 8 + g 149 (14 + 7 * p) then 9999 else g 149 8 + g 149 (14 + 7 * p) := by rw [tt, tNote_hi (by decide), tU_eq]
      have eG : ∀ c j, 3 ≤ c → c < 76 → c ≠ 14 → c ≠ 15 → cRem gf i c j = g c j := fun c j h1 h2 h3 h4 => by rw [cRem_ne q5 (fun t => by omega) (Or.inl h2), q4 c j h3 h4]
      have b0 : RTb 16 (cRem gf i) (g 149) := RTb_cg hT (fun j _ _ => eG _ _ (by decide) (by decide) (by decide) (by decide)) (fun k j _ _ => eG _ _ (by omega) (by omega) (by omega) (by omega)) (fun _ _ => rfl)
      have b1 := RTb_d (z := 1) (v := fop 4 (g 16 7) (fop 6 1 (p : Int))) b0 hp8 (fun q hq => by
        rw [eG _ _ (by decide) (by decide) (by decide) (by decide)]
        exact fbt_set hp8 hq)
      have b2 := RTb_f (j := 8) (k := 8) (v := if 9999 < g 149 8 + g 149 (14 + 7 * p) then 9999 else g 149 8 + g 149 (14 + 7 * p)) b1 (by omega)
      have b4 := RTb_note (p := (p : Int)) (k := 1) (w := g 149 (12 + 7 * p)) b2 (by rw [tU_ne (by decide), tU_ne (by omega)]; exact b9.1) (by rw [tU_ne (by decide), tU_ne (by omega)]; exact b9.2) (by omega) (by omega) (by decide) (by decide) (by have := hB.2.2.2.2.1 p hp8; omega) (hB.2.2.2.2.1 p hp8).2
      rw [← tt] at b4
      have iv : RIv (tOff (g 149) p) := by
        rw [tt]
        refine RIv_note (RIv_u ?_ ⟨by decide, Or.inl (by decide)⟩)
        obtain ⟨r1, r2, r3⟩ := hi.1.2.2.2.1
        refine ⟨fun q hq => ?_, fun q hq => ?_, fun q hq h3 => ?_⟩
        · rw [tU_ne (by omega), tU_ne (by omega)]; exact r1 q hq
        · by_cases e : q = p
          · subst e
            rw [tU_ne (j := 12 + 7 * q) (by omega)]
            exact fun _ => awp
          · rw [tU_ne (by omega), tU_ne (by omega)]; exact r2 q hq
        · rw [tU_ne (by omega)] at h3
          rw [tU_ne (by omega)]; exact r3 q hq h3
      have bd : RBd (tOff (g 149) p) := by
        rw [tt]
        exact RBd_n (RBd_i (RBd_u hi.2.1.1 (by omega)) (by split <;> omega) (by split <;> omega))
      have th : ∀ k, k < 10 ∨ (12 ≤ k ∧ k < 124) ∨ 364 ≤ k → k ≠ 8 → k ≠ 12 + 7 * p + 5 → tOff (g 149) p k = g 149 k := fun k k1 k2 k3 => by
        rw [tt]
        unfold tNote
        rw [if_neg (by omega), if_neg (by omega), if_neg (by omega), if_neg (by omega), if_neg (by omega), if_neg (by omega), tU_ne k2, tU_ne k3]
      have xr := mRem_rA x
      rw [fu_eq] at xr
      have hE : ∀ c j, ¬ (16 ≤ c ∧ c ≤ 21) → c ≠ 14 → c ≠ 15 → cNote 16 (fu (fu (cRem gf i) 16 7 (fop 4 (g 16 7) (fop 6 1 (p : Int)))) 16 8 (if 9999 < g 149 8 + g 149 (14 + 7 * p) then 9999 else g 149 8 + g 149 (14 + 7 * p))) p 1 (g 149 (12 + 7 * p)) c j = cRem g i c j := fun c j a a2 a3 => by
        rw [cNote_hi (by omega), fu_nc (by omega), fu_nc (by omega)]
        exact cRem_fs q4 a2 a3
      obtain ⟨s1, s2, s3⟩ := act2_LI hi hB q5 q6 hE b4 iv bd (fun k hk => th k (by unfold gHp at hk; omega) (by unfold gHp at hk; omega) (by unfold gHp at hk; omega)) (fun k hk => th k (by omega) (by omega) (by omega)) h1 xr rfl
      refine ⟨rfl, _, rfl, ?_, s1, s3, fun _ => ?_, ?_⟩
      · rw [ev]; unfold fR; split <;> omega
      · rw [h1, fu_eq, ev]
      · rw [s2, h1, fu_eq]
end FIP
end
section
/-! fx: the text of the house keeps all alike -/
section FIQ0
variable {T : Int → Int} {E : Int}
theorem pLine_lim {pp dd f f' y : Int} (h : pLine T E pp dd f = Sum.inr (f', [3, 7, y])) (hf : pOk T E f) : 1 ≤ y ∧ y ≤ 99 := by
  have hw := pOk_we hf
  unfold pLine at h
  by_cases c : pWd T E [112, 101, 114, 115, 111, 110] f
  · rw [cif_t c] at h
    by_cases e : pp = 8
    · rw [if_pos e] at h; cases h
    · rw [if_neg e] at h
      obtain ⟨o, w, pl, v, l, e1, e2⟩ := pPerson_ok h hw
      exact absurd (List.cons.inj e1).1 (by decide)
  rw [cif_f c] at h
  by_cases c : pWd T E [100, 105, 115, 104] f
  · rw [cif_t c] at h
    by_cases e : dd = 6
    · rw [if_pos e] at h; cases h
    · rw [if_neg e] at h
      obtain ⟨o, e1, e2⟩ := pDish_ok h hw
      exact absurd (List.cons.inj e1).1 (by decide)
  rw [cif_f c] at h
  by_cases c : pWd T E [114, 111, 97, 100] f
  · rw [cif_t c] at h
    obtain ⟨⟨f1, x, z⟩, e1, h⟩ := bS_inr h
    exact absurd (List.cons.inj (Prod.mk.inj (Sum.inr.inj h)).2).1 (by decide)
  rw [cif_f c] at h
  have st : ∀ x lo hi, pSet T E x lo hi (pSk T E (pWe T E f)) = Sum.inr (f', [3, 7, y]) → x = 7 ∧ lo ≤ y ∧ y ≤ hi := fun x lo hi t => by
    obtain ⟨o, z, e1, e2, e3⟩ := pSet_ok t hw
    have i1 := (List.cons.inj e1).2
    have i2 := (List.cons.inj (List.cons.inj i1).2).1
    subst i2
    exact ⟨(List.cons.inj i1).1.symm, e2, e3⟩
  by_cases c : pWd T E [113, 117, 111, 116, 97] f
  · rw [cif_t c] at h; exact absurd (st 5 0 160 h).1 (by decide)
  rw [cif_f c] at h
  by_cases c : pWd T E [119, 97, 108, 107] f
  · rw [cif_t c] at h; exact absurd (st 6 0 100 h).1 (by decide)
  rw [cif_f c] at h
  by_cases c : pWd T E [108, 105, 109, 105, 116] f
  · rw [cif_t c] at h; exact (st 7 1 99 h).2
  rw [cif_f c] at h
  by_cases c : pWd T E [105, 114, 111, 110] f
  · rw [cif_t c] at h; exact absurd (st 8 0 999 h).1 (by decide)
  rw [cif_f c] at h
  by_cases c : pWd T E [110, 105, 103, 104, 116] f
  · rw [cif_t c] at h; exact absurd (st 9 0 999 h).1 (by decide)
  rw [cif_f c] at h
  by_cases c : pWd T E [112, 114, 111, 109, 105, 115, 101] f
  · rw [cif_t c] at h
    obtain ⟨⟨f1, x, z⟩, e1, h⟩ := bS_inr h
    exact absurd (List.cons.inj (Prod.mk.inj (Sum.inr.inj h)).2).1 (by decide)
  rw [cif_f c] at h
  cases h
theorem RBd_line {gm : Nat → Nat → Int} {u : List Int} (h : RBd (gm 149)) (hu : uOk E (gm 149 3) (gm 149 4) u) (hl : ∀ y, u = [3, 7, y] → 1 ≤ y ∧ y ≤ 99) (hp0 : 0 ≤ gm 149 3) (hp1 : gm 149 3 ≤ 8) (hd0 : 0 ≤ gm 149 4) (hd1 : gm 149 4 ≤ 6) : RBd (apL T u gm 149) ∧ (∀ j, j = 1 ∨ j = 2 ∨ 364 ≤ j → apL T u gm 149 j = gm 149 j) := by
  obtain ⟨h1, h2, h3, h4⟩ := h
  rcases hu with ⟨w, pl, v, l, rfl, hu⟩ | ⟨b, rfl, hu⟩ | ⟨x, y, rfl, hu⟩ | ⟨x, y, rfl, hu⟩ | ⟨x, y, rfl, hu⟩
  · rw [apL_0] at *
    have eW : ∀ p : Nat, p < 8 → ∀ q : Nat, q < 7 → apP gm w pl v l 149 (12 + 7 * p + q) = if (p : Int) = gm 149 3 then [pl, v, w, l, -1, 0, 0].getD q 0 else gm 149 (12 + 7 * p + q) := fun p hp q hq => by
      unfold apP
      by_cases e : (p : Int) = gm 149 3
      · rw [if_pos e]
        rw [fu_nj (by omega)]
        by_cases q6 : q = 6
        · subst q6; rw [show 12 + 7 * p + 6 = (12 + 7 * gm 149 3 + 6).toNat by omega, fu_eq]; rfl
        rw [fu_nj (by omega)]
        by_cases q5 : q = 5
        · subst q5; rw [show 12 + 7 * p + 5 = (12 + 7 * gm 149 3 + 5).toNat by omega, fu_eq]; rfl
        rw [fu_nj (by omega)]
        by_cases q4 : q = 4
        · subst q4; rw [show 12 + 7 * p + 4 = (12 + 7 * gm 149 3 + 4).toNat by omega, fu_eq]; rfl
        rw [fu_nj (by omega)]
        by_cases q3 : q = 3
        · subst q3; rw [show 12 + 7 * p + 3 = (12 + 7 * gm 149 3 + 3).toNat by omega, fu_eq]; rfl
        rw [fu_nj (by omega)]
        by_cases q2 : q = 2
        · subst q2; rw [show 12 + 7 * p + 2 = (12 + 7 * gm 149 3 + 2).toNat by omega, fu_eq]; rfl
        rw [fu_nj (by omega)]
        by_cases q1 : q = 1
        · subst q1; rw [show 12 + 7 * p + 1 = (12 + 7 * gm 149 3 + 1).toNat by omega, fu_eq]; rfl
        rw [fu_nj (by omega)]
        have q0 : q = 0 := by omega
        subst q0
        rw [show 12 + 7 * p + 0 = (12 + 7 * gm 149 3 + 0).toNat by omega, fu_eq]; rfl
      · rw [if_neg e]
        repeat rw [fu_nj (by omega)]
    have eS : ∀ j : Nat, (j < 12 ∨ 68 ≤ j) → j ≠ 3 → apP gm w pl v l 149 j = gm 149 j := fun j h1 h2 => by
      unfold apP
      repeat rw [fu_nj (by omega)]
    refine ⟨⟨by rw [eS 7 (by decide) (by decide)]; exact h1, by rw [eS 8 (by decide) (by decide)]; exact h2, fun p hp => ?_, by rw [eS 0 (by decide) (by decide)]; exact h4⟩, fun j hj => eS j (by omega) (by omega)⟩
    have q := h3 p hp
    rw [show 14 + 7 * p = 12 + 7 * p + 2 by omega, show 18 + 7 * p = 12 + 7 * p + 6 by omega, show 13 + 7 * p = 12 + 7 * p + 1 by omega] at q ⊢
    rw [eW p hp 2 (by decide), eW p hp 6 (by decide), eW p hp 1 (by decide)]
    by_cases e : (p : Int) = gm 149 3
    · rw [if_pos e, if_pos e, if_pos e]
      show (0 ≤ w ∧ w ≤ 99) ∧ (0 ≤ (0 : Int) ∧ (0 : Int) ≤ 99) ∧ (0 ≤ v ∧ v ≤ 20)
      omega
    · rw [if_neg e, if_neg e, if_neg e]
      exact q
  · rw [apL_1] at *
    have eS : ∀ j : Nat, (j < 68 ∨ 116 ≤ j) → j ≠ 4 → apD T b gm 149 j = gm 149 j := fun j h1 h2 => by
      unfold apD
      rw [fu_nj h2, dshR_at hd0, if_neg (by omega)]
    exact ⟨⟨by rw [eS 7 (by decide) (by decide)]; exact h1, by rw [eS 8 (by decide) (by decide)]; exact h2, fun p hp => by rw [eS _ (by omega) (by omega), eS _ (by omega) (by omega), eS _ (by omega) (by omega)]; exact h3 p hp, by rw [eS 0 (by decide) (by decide)]; exact h4⟩, fun j hj => eS j (by omega) (by omega)⟩
  · rw [apL_2] at *
    have eS : ∀ j : Nat, (j < 116 ∨ 124 ≤ j) → apR x y gm 149 j = gm 149 j := fun j h1 => by
      unfold apR
      rw [fu_nj (by omega), fu_nj (by omega)]
    exact ⟨⟨by rw [eS 7 (by decide)]; exact h1, by rw [eS 8 (by decide)]; exact h2, fun p hp => by rw [eS _ (by omega), eS _ (by omega), eS _ (by omega)]; exact h3 p hp, by rw [eS 0 (by decide)]; exact h4⟩, fun j hj => eS j (by omega)⟩
  · rw [apL_3] at *
    have eS : ∀ j : Nat, j ≠ x.toNat → fu gm 149 x.toNat y 149 j = gm 149 j := fun j h1 => fu_nj h1
    refine ⟨⟨?_, ?_, fun p hp => by rw [eS _ (by omega), eS _ (by omega), eS _ (by omega)]; exact h3 p hp, by rw [eS 0 (by omega)]; exact h4⟩, fun j hj => eS j (by omega)⟩
    · by_cases e : x = 7
      · subst e
        have := hl y rfl
        rw [show (7 : Int).toNat = 7 from rfl, fu_eq]; exact this
      · rw [eS 7 (by omega)]; exact h1
    · by_cases e : x = 8
      · subst e
        rw [show (8 : Int).toNat = 8 from rfl, fu_eq]; omega
      · rw [eS 8 (by omega)]; exact h2
  · rw [apL_4] at *
    have eS : ∀ j : Nat, j ≠ (12 + 7 * x + 4).toNat → apV x y gm 149 j = gm 149 j := fun j h1 => by
      unfold apV
      exact fu_nj h1
    exact ⟨⟨by rw [eS 7 (by omega)]; exact h1, by rw [eS 8 (by omega)]; exact h2, fun p hp => by rw [eS _ (by omega), eS _ (by omega), eS _ (by omega)]; exact h3 p hp, by rw [eS 0 (by omega)]; exact h4⟩, fun j hj => eS j (by omega)⟩
theorem RBd_all : ∀ {n : Nat} {f : Int} {us : List (List Int)} {gm : Nat → Nat → Int}, pAll T E n (gm 149 3) (gm 149 4) f = Sum.inr us → pOk T E f → 0 ≤ gm 149 3 → gm 149 3 ≤ 8 → 0 ≤ gm 149 4 → gm 149 4 ≤ 6 → RBd (gm 149) → RBd (apLs T us gm 149) ∧ (∀ j, j = 1 ∨ j = 2 ∨ 364 ≤ j → apLs T us gm 149 j = gm 149 j)
  | 0, f, us, gm, h, _, _, _, _, _, _ => by cases h
  | n + 1, f, us, gm, h, hf, hp0, hp1, hd0, hd1, hr => by
    obtain ⟨⟨f', u⟩, e, h⟩ := bS_inr (show bS (pLine T E (gm 149 3) (gm 149 4) f) _ = Sum.inr us from h)
    obtain ⟨fo', hu⟩ := pLine_ok e hf hp1 hd1
    obtain ⟨s1, s2⟩ := RBd_line (T := T) hr hu (fun y hy => by rw [hy] at e; exact pLine_lim e hf) hp0 hp1 hd0 hd1
    obtain ⟨m1, m2, m3, m4, m5, m6, m7⟩ := apL_ok (T := T) hu hp0 hp1 hd0 hd1
    by_cases x1 : f' = E
    · have h : (if f' = E then Sum.inr [u] else if T f' = 59 then bS (pAll T E n (gm 149 3 + k0 u) (gm 149 4 + k1 u) (pSk T E (f' + 1))) (fun us => Sum.inr (u :: us)) else Sum.inl f' : Int ⊕ List (List Int)) = Sum.inr us := h
      rw [if_pos x1] at h
      cases h
      exact ⟨s1, s2⟩
    · have h : (if f' = E then Sum.inr [u] else if T f' = 59 then bS (pAll T E n (gm 149 3 + k0 u) (gm 149 4 + k1 u) (pSk T E (f' + 1))) (fun us => Sum.inr (u :: us)) else Sum.inl f' : Int ⊕ List (List Int)) = Sum.inr us := h
      rw [if_neg x1] at h
      by_cases x2 : T f' = 59
      · rw [if_pos x2] at h
        obtain ⟨us', e2, h⟩ := bS_inr h
        cases h
        rw [← m1, ← m2] at e2
        have p0 := fo'.1
        have p1 := fo'.2.1
        obtain ⟨q1, q2⟩ := RBd_all e2 (pOk_sk (by omega) (by omega)) (by omega) (by omega) (by omega) (by omega) s1
        exact ⟨q1, fun j t => (q2 j t).trans (s2 j t)⟩
      · rw [if_neg x2] at h
        cases h
theorem RBd_text {gm : Nat → Nat → Int} {us : List (List Int)} (hE : 0 ≤ E) (h : pText T E (gm 149 3) (gm 149 4) = Sum.inr us) (hp0 : 0 ≤ gm 149 3) (hp1 : gm 149 3 ≤ 8) (hd0 : 0 ≤ gm 149 4) (hd1 : gm 149 4 ≤ 6) (hr : RBd (gm 149)) : RBd (apLs T us gm 149) ∧ (∀ j, j = 1 ∨ j = 2 ∨ 364 ≤ j → apLs T us gm 149 j = gm 149 j) := by
  unfold pText at h
  by_cases c : pSk T E 0 = E
  · rw [if_pos c] at h; cases h; exact ⟨hr, fun _ _ => rfl⟩
  · rw [if_neg c] at h
    exact RBd_all h (pOk_sk (Int.le_refl 0) hE) hp0 hp1 hd0 hd1 hr
end FIQ0
section FIQ
variable {W : ax_W} {r : Nat} {g : Nat → Nat → Int}
def HM_house (g : Nat → Nat → Int) (zc : Int) (g1 : Nat → Nat → Int) : Prop := ∃ (T : Int → Int) (E : Int), (T = fun k => g 2 k.toNat) ∧ E = g 1 1 ∧ ((zc = 1 ∧ (∃ q, pText T E (g 3 4) (g 3 5) = Sum.inl q) ∧ frc g g1 ∧ g1 1 1 = 0) ∨ (zc = 2 ∧ (∃ us, pText T E (g 3 4) (g 3 5) = Sum.inr us) ∧ g 3 6 = 12 ∧ frc g g1 ∧ g1 1 1 = 0) ∨ (zc = 0 ∧ ∃ us G A, pText T E (g 3 4) (g 3 5) = Sum.inr us ∧ g 3 6 ≠ 12 ∧ A = apCs T us (cpT (cpH (fUse T E g) 3 29) 16 22) ∧ frd g G ∧ G 1 1 = 0 ∧ G 0 16 = 0 ∧ G 3 6 = g 3 6 + 1 ∧ (∀ j, 4 ≤ j → j ≤ 9 → j ≠ 6 → G 3 j = A 29 j) ∧ (∀ i j, 1 ≤ i → i ≤ 4 → G (3 + i) j = A (29 + i) j) ∧ (∀ j, 5 ≤ j → j ≤ 10 → G 16 j = A 22 j) ∧ (∀ i j, 1 ≤ i → i ≤ 5 → G (16 + i) j = A (22 + i) j) ∧ g1 = fu G 159 0 ((fJ (g 3 6 + 1) - 4 : Nat) : Int)))
theorem sp_w_house (hl : 1 ≤ W.lim) (hi : LI g) (hB : LB2 g) : fx W 1 11 69 0 [2, 1274, 7] [] g (fun k v g1 => k = 1 ∧ ∃ zc, v = fI zc ∧ 0 ≤ zc ∧ zc ≤ 3 ∧ HM_house g zc g1) := by
  obtain ⟨⟨b1, b2, b3, b4, b5, b6, b7, b8, b9⟩, -, bt, -⟩ := hB
  have ht : g 3 6 = g 149 0 := hi.1.2.1.2.2.1
  have h0 := hi.2.1.1.2.2.2
  refine sp_wg_house (P := fun kd v g1 => (∃ q, kd = 2 ∧ pText (fun k => g 2 k.toNat) (g 1 1) (g 3 4) (g 3 5) = Sum.inl q ∧ frc g g1 ∧ g1 1 1 = 0) ∨ (∃ us, kd = 3 ∧ pText (fun k => g 2 k.toNat) (g 1 1) (g 3 4) (g 3 5) = Sum.inr us ∧ g 3 6 = 12 ∧ frc g g1 ∧ g1 1 1 = 0) ∨ (kd = 1 ∧ v = fI (g 3 6 + 1) ∧ ∃ us A, pText (fun k => g 2 k.toNat) (g 1 1) (g 3 4) (g 3 5) = Sum.inr us ∧ g 3 6 ≠ 12 ∧ A = apCs (fun k => g 2 k.toNat) us (cpT (cpH (fUse (fun k => g 2 k.toNat) (g 1 1) g) 3 29) 16 22) ∧ frd g g1 ∧ g1 1 1 = 0 ∧ g1 0 16 = 0 ∧ g1 3 6 = g 3 6 + 1 ∧ (∀ j, 4 ≤ j → j ≤ 9 → j ≠ 6 → g1 3 j = A 29 j) ∧ (∀ i j, 1 ≤ i → i ≤ 4 → g1 (3 + i) j = A (29 + i) j) ∧ (∀ j, 5 ≤ j → j ≤ 10 → g1 16 j = A 22 j) ∧ (∀ i j, 1 ≤ i → i ≤ 5 → g1 (16 + i) j = A (22 + i) j))) hl ?_ (fun kd v g1 hp => ?_)
  · exact sp_chouseF (T := fun k => g 2 k.toNat) (Nat.le_refl 1) (fun k k0 k1 => ⟨rfl, bt k.toNat (by omega)⟩) rfl b7.1 b7.2 b1.1 b1.2 b2.1 b2.2 (by omega) (by omega)
      (fun q t g' f1 f2 f3 => Or.inl ⟨q, rfl, t, f1, f2⟩)
      (fun us t t2 g' f1 f2 f3 => Or.inr (Or.inl ⟨us, rfl, t, t2, f1, f2⟩))
      (fun us t t2 A hA g' x1 x2 x3 x4 x5 x6 x7 x8 x9 => Or.inr (Or.inr ⟨rfl, rfl, us, A, t, t2, hA, x1, x2, x4, x5, x6, x7, x8, x9⟩))
  · rcases hp with ⟨q, rfl, t, f1, f2⟩ | ⟨us, rfl, t, t2, f1, f2⟩ | ⟨rfl, rfl, us, A, t, t2, hA, f⟩
    · exact Or.inr (Or.inl ⟨rfl, rfl, 1, rfl, by decide, by decide, _, _, rfl, rfl, Or.inl ⟨rfl, ⟨q, t⟩, f1, f2⟩⟩)
    · exact Or.inr (Or.inr ⟨rfl, rfl, 2, rfl, by decide, by decide, _, _, rfl, rfl, Or.inr (Or.inl ⟨rfl, ⟨us, t⟩, t2, f1, f2⟩)⟩)
    · obtain ⟨x1, x2, x3, x4, x5, x6, x7, x8⟩ := f
      exact Or.inl ⟨rfl, _, rfl, by unfold fR; omega, rfl, 0, rfl, by decide, by decide, _, _, rfl, rfl, Or.inr (Or.inr ⟨rfl, us, g1, A, t, t2, hA, x1, x2, x3, x4, x5, x6, x7, x8, rfl⟩)⟩
theorem LI_no {g1 g2 : Nat → Nat → Int} (hi : LI g) (f1 : frc g g1) (f2 : g1 1 1 = 0) (m0 : frm g1 g2) (m1 : g2 148 8 = 0) (m2 : g2 148 6 = g1 148 6) (m3 : ∀ j, g2 149 j = g1 149 j) : LI g2 := by
  have k : ∀ c j, ¬ (22 ≤ c ∧ c ≤ 33) → ¬ (c = 1 ∧ j = 1) → ¬ (c = 0 ∧ j = 18) → c ≠ 151 → ¬ (c = 148 ∧ (j = 0 ∨ (8 ≤ j ∧ j ≤ 13))) → g2 c j = g c j := fun c j a1 a2 a3 a4 a5 => by
    rw [← f1 c j a1 a2 a3]
    by_cases c1 : c = 149
    · subst c1; exact m3 j
    · by_cases c2 : c = 148 ∧ j = 6
      · obtain ⟨rfl, rfl⟩ := c2; exact m2
      · exact m0 c j c1 a4 (by omega)
  exact LI_cg hi (fun c j q => k c j (by unfold RK at q; omega) (by unfold RK at q; omega) (by unfold RK at q; omega) (by unfold RK at q; omega) (by unfold RK at q; omega)) (fun c j q q2 q3 => k c j (by unfold fPk at q; omega) (by unfold fPk at q; omega) (by unfold fPk at q; omega) (by unfold fPk at q; omega) (by unfold fPk at q; omega)) (by rw [m0 _ _ (by decide) (by decide) (by decide), f2, m1])
theorem sp_r_house {zc : Int} {g1 : Nat → Nat → Int} (hi : LI g) (hB : LB2 g) (hm : HM_house g zc g1) : fx W r 9 266 0 [1186, 7] [] g1 (PMa g1 zc) := by
  obtain ⟨⟨b1, b2, b3, b4, b5, b6, b7, b8, b9⟩, ⟨d1, d2, d3, -⟩, bt, -⟩ := hB
  have ht : g 3 6 = g 149 0 := hi.1.2.1.2.2.1
  have h3 : g 3 4 = g 149 3 := hi.1.2.1.1
  have h4 : g 3 5 = g 149 4 := hi.1.2.1.2.1
  have h0 := hi.2.1.1.2.2.2
  have hl : g 1 1 = g 148 8 := hi.2.2.2.2.1
  obtain ⟨T, E, eT, eE, hm⟩ := hm
  have up : ∀ c j, 148 ≤ c → c ≠ 159 → g1 c j = g c j := fun c j a a2 => by
    rcases hm with ⟨-, -, f1, -⟩ | ⟨-, -, -, f1, -⟩ | ⟨-, us, G, A, -, -, -, f1, -, -, -, -, -, -, -, rfl⟩
    · exact f1 c j (by omega) (by omega) (by omega)
    · exact f1 c j (by omega) (by omega) (by omega)
    · rw [fu_nc a2]; exact f1 c j (by omega) (by omega) (by omega) (by omega)
  have em : g1 149 = g 149 := by funext j; exact up _ _ (by decide) (by decide)
  rw [h3, h4] at hm
  refine sp_mhouse (T := T) (E := E) (fun k k0 k1 => ?_) (by rw [up _ _ (by decide) (by decide), ← hl, eE]) (by rw [eE]; exact b7.1) (by rw [eE]; exact b7.2) (by rw [em]; exact d2.1) (by rw [em]; exact d2.2) (by rw [em]; exact d3.1) (by rw [em]; exact d3.2) (by rw [em]; exact h0.1) (by rw [em]; exact h0.2) ?_ ?_ ?_
  · rw [up _ _ (by decide) (by decide), eT]
    exact ⟨(hi.1.1 k.toNat (by omega)).symm, bt k.toNat (by omega)⟩
  all_goals rw [em]
  · intro q t g' m0 m1 m2 m3 m4 m5
    rcases hm with ⟨rfl, -, f1, f2⟩ | ⟨-, ⟨us, t2⟩, -⟩ | ⟨-, us, G, A, t2, -⟩
    · exact ⟨rfl, 0, rfl, by unfold fR; decide, LI_no hi f1 f2 m0 m3 m4 (fun j => by rw [m5, em]), m1, fun t => absurd t (by decide), m0 _ _ (by decide) (by decide) (by decide)⟩
    · rw [t] at t2; cases t2
    · rw [t] at t2; cases t2
  · intro us t tt g' m0 m1 m2 m3 m4 m5
    rcases hm with ⟨-, ⟨q, t2⟩, -⟩ | ⟨rfl, -, -, f1, f2⟩ | ⟨-, us, G, A, -, t2, -⟩
    · rw [t] at t2; cases t2
    · exact ⟨rfl, 0, rfl, by unfold fR; decide, LI_no hi f1 f2 m0 m3 m4 (fun j => by rw [m5, em]), m1, fun t => absurd t (by decide), m0 _ _ (by decide) (by decide) (by decide)⟩
    · exact absurd tt (by omega)
  · intro us t tt g' m0 m1 m2 m3 m4 m5
    rcases hm with ⟨-, ⟨q, t2⟩, -⟩ | ⟨-, -, t2, -⟩ | ⟨rfl, us2, G, A, t2, -, hA, x0, xl, x1, x2, f1, f2, f3, f4, h1⟩
    · rw [t] at t2; cases t2
    · exact absurd t2 (by omega)
    · have eu : us2 = us := by rw [t] at t2; exact (Sum.inr.inj t2).symm
      subst eu
      have x0' : ∀ c j, 22 ≤ c ∨ True → ¬ (3 ≤ c ∧ c ≤ 3 + 4) → ¬ (16 ≤ c ∧ c ≤ 33) → ¬ (c = 1 ∧ j = 1) → ¬ (c = 0 ∧ (j = 18 ∨ j = 16)) → fu g1 159 0 (g 159 0) c j = g c j := fun c j _ a1 a2 a3 a4 => by
        by_cases e : c = 159 ∧ j = 0
        · obtain ⟨rfl, rfl⟩ := e
          rw [fu_eq]
        · rw [fu_ne e, h1, fu_ne e]
          exact x0 c j a1 a2 a3 a4
      obtain ⟨r1, r2⟩ := RBd_text (T := T) (E := E) (gm := g1) (us := us2) (by rw [eE]; exact b7.1) (by rw [em]; exact t) (by rw [em]; exact d2.1) (by rw [em]; exact d2.2) (by rw [em]; exact d3.1) (by rw [em]; exact d3.2) (by rw [em]; exact hi.2.1.1)
      have row : g' 149 = tU (apLs T us2 g1 149) 0 (g 149 0 + 1) := by
        funext j
        rw [m5]
        unfold fu tU
        by_cases e : j = 0
        · rw [if_pos ⟨rfl, e⟩, if_pos e]
        · rw [if_neg (fun t => e t.2), if_neg e]
      have lo : ∀ c j, c < 148 → g' c j = G c j := fun c j hc => by
        rw [m0 c j (by omega) (by omega) (by omega), h1, fu_nc (by omega)]
      have hi2 : ∀ c j, 148 ≤ c → c ≠ 149 → c ≠ 151 → c ≠ 159 → ¬ (c = 148 ∧ (j = 0 ∨ j = 6 ∨ (8 ≤ j ∧ j ≤ 13))) → g' c j = g c j := fun c j a1 a2 a3 a4 a5 => by
        rw [m0 c j a2 a3 a5, up c j a1 a4]
      have RM : RMain g' := RMain_house (T := T) (E := E) (us := us2) (g1 := g1) (A := A) hi.1 (by rw [eE]; exact b7.1) t d2.1 d2.2 d3.1 d3.2 hA (fun c j => x0' c j (Or.inr trivial)) (by rw [h1, fu_nc (by decide)]; exact x1) (by rw [h1, fu_nc (by decide)]; exact x2) (fun j j1 j2 j3 => by rw [h1, fu_nc (by decide)]; exact f1 j j1 j2 j3) (fun i j j1 j2 => by rw [h1, fu_nc (by omega)]; exact f2 i j j1 j2) (fun j j1 j2 => by rw [h1, fu_nc (by decide)]; exact f3 j j1 j2) (fun i j j1 j2 => by rw [h1, fu_nc (by omega)]; exact f4 i j j1 j2) m0 m4 (fun j => by rw [m5, em])
      refine ⟨rfl, _, rfl, by unfold fR; omega, ⟨RM, ⟨?_, fun r hr => ?_⟩, ?_, ?_, ?_, ?_⟩, m1, fun _ => ?_, m0 _ _ (by decide) (by decide) (by decide)⟩
      · rw [row]
        obtain ⟨w1, w2, w3, w4⟩ := r1
        exact ⟨by rw [tU_ne (by decide)]; exact w1, by rw [tU_ne (by decide)]; exact w2, fun p hp => by rw [tU_ne (by omega), tU_ne (by omega), tU_ne (by omega)]; exact w3 p hp, by rw [tU_eq]; omega⟩
      · rw [m4] at hr; omega
      · rw [row]
        refine RLw_eq hi.2.2.1 (by rw [lo _ _ (by decide)]; exact x0 _ _ (by decide) (by decide) (by decide) (by decide)) (fun i j i1 i2 => by rw [lo _ _ (by omega)]; exact x0 _ _ (by omega) (by omega) (by omega) (by omega)) (fun k hk => by rw [tU_ne (by omega), r2 k (by omega), em])
      · refine RImg_cg hi.2.2.2.1 (fun c j k => ?_) (by rw [lo _ _ (by decide)]; exact x0 _ _ (by decide) (by decide) (by decide) (by decide))
        by_cases hc : c < 148
        · rw [lo c j hc]; exact x0 c j (by omega) (by omega) (by omega) (by omega)
        · exact hi2 c j (by omega) (by omega) (by omega) (by omega) (by omega)
      · rw [lo _ _ (by decide), xl, m3]
      · rw [lo _ _ (by decide), x0 _ _ (by decide) (by decide) (by decide) (by decide), hi2 _ _ (by decide) (by decide) (by decide) (by decide) (by decide)]
        exact hi.2.2.2.2.2
      · rw [h1, fu_eq, ht]
end FIQ
end
section
/-! fx: the text of the law keeps all alike -/
theorem RHf_12 {t t' : Nat → Int} (e : ∀ k, k ≠ 1 → k ≠ 2 → k < 364 → t' k = t k) {h : Nat} {g : Nat → Nat → Int} (q : RHf h g t) (hd : g h 5 ≤ 6) : RHf h g t' := by
  obtain ⟨a1, a2, a3, a4, a5, a6, a7, a8, a9, a10⟩ := q
  refine ⟨?_, ?_, ?_, ?_, ?_, ?_, fun p hp => ?_, fun p hp => ?_, fun j hj => ?_, fun j hj => ?_⟩
  · rw [e _ (by decide) (by decide) (by decide)]; exact a1
  · rw [e _ (by decide) (by decide) (by decide)]; exact a2
  · rw [e _ (by decide) (by decide) (by decide)]; exact a3
  · rw [e _ (by decide) (by decide) (by decide)]; exact a4
  · rw [e _ (by decide) (by decide) (by decide)]; exact a5
  · rw [e _ (by decide) (by decide) (by decide)]; exact a6
  · rw [e _ (by omega) (by omega) (by omega)]; exact a7 p hp
  · rw [e _ (by omega) (by omega) (by omega)]; exact a8 p hp
  · rw [e _ (by omega) (by omega) (by omega)]; exact a9 j hj
  · rw [e _ (by omega) (by omega) (by omega)]; exact a10 j hj
theorem RTf_12 {t t' : Nat → Int} (e : ∀ k, k ≠ 1 → k ≠ 2 → k < 364 → t' k = t k) {b : Nat} {g : Nat → Nat → Int} (q : RTf b g t) : RTf b g t' := by
  obtain ⟨a1, a2, a3, a4, a5, a6, a7, a8⟩ := q
  refine ⟨fun p hp => ?_, fun p hp => ?_, fun p hp => ?_, fun p hp => ?_, fun p hp => ?_, ?_, ?_, ?_⟩
  · rw [e _ (by omega) (by omega) (by omega)]; exact a1 p hp
  · rw [e _ (by omega) (by omega) (by omega)]; exact a2 p hp
  · rw [e _ (by omega) (by omega) (by omega)]; exact a3 p hp
  · rw [e _ (by omega) (by omega) (by omega)]; exact a4 p hp
  · rw [e _ (by omega) (by omega) (by omega)]; exact a5 p hp
  · rw [e _ (by decide) (by decide) (by decide)]; exact a6
  · rw [e _ (by decide) (by decide) (by decide)]; exact a7
  · rw [e _ (by decide) (by decide) (by decide)]; exact a8
theorem RIv_12 {t t' : Nat → Int} (e : ∀ k, k ≠ 1 → k ≠ 2 → k < 364 → t' k = t k) (q : RIv t) : RIv t' := by
  obtain ⟨a1, a2, a3⟩ := q
  refine ⟨fun p hp => ?_, fun p hp => ?_, fun p hp => ?_⟩
  · rw [e _ (by omega) (by omega) (by omega), e _ (by omega) (by omega) (by omega)]; exact a1 p hp
  · rw [e _ (by omega) (by omega) (by omega), e _ (by omega) (by omega) (by omega)]; exact a2 p hp
  · rw [e _ (by omega) (by omega) (by omega), e _ (by omega) (by omega) (by omega)]; exact a3 p hp
theorem RBd_12 {t t' : Nat → Int} (e : ∀ k, k ≠ 1 → k ≠ 2 → k < 364 → t' k = t k) (q : RBd t) : RBd t' := by
  obtain ⟨a1, a2, a3, a4⟩ := q
  refine ⟨?_, ?_, fun p hp => ?_, ?_⟩
  · rw [e _ (by decide) (by decide) (by decide)]; exact a1
  · rw [e _ (by decide) (by decide) (by decide)]; exact a2
  · rw [e _ (by omega) (by omega) (by omega), e _ (by omega) (by omega) (by omega), e _ (by omega) (by omega) (by omega)]; exact a3 p hp
  · rw [e _ (by decide) (by decide) (by decide)]; exact a4
theorem RMain_0 {g g2 : Nat → Nat → Int} (h : RMain g) (hd : g 3 5 ≤ 6) (e : ∀ c j, RK c j → c ≠ 149 → ¬ (c = 0 ∧ j = 16) → ¬ (c = 148 ∧ j = 6) → g2 c j = g c j) (em : ∀ k, k ≠ 1 → k ≠ 2 → k < 364 → g2 149 k = g 149 k) (p0 : g2 0 16 = 0) (a0 : g2 148 6 = 0) : RMain g2 := by
  obtain ⟨a1, a2, a3, a4, a5⟩ := h
  refine ⟨fun j hj => ?_, ?_, ⟨?_, ?_⟩, RIv_12 em a4, RPs_0 p0 a0 ?_ ?_⟩
  · rw [e _ _ (by unfold RK; omega) (by decide) (by omega) (by omega), e 153 _ (by unfold RK; omega) (by decide) (by omega) (by omega)]; exact a1 j hj
  · exact RHf_12 em (RHf_eq a2 (fun j _ _ => e _ _ (by unfold RK; omega) (by decide) (by omega) (by omega)) (fun i j i1 i2 => e _ _ (by unfold RK; omega) (by omega) (by omega) (by omega))) (by rw [e _ _ (by unfold RK; omega) (by decide) (by decide) (by decide)]; exact hd)
  · exact RTf_12 em (RTf_eq a3.1 (fun j _ _ => e _ _ (by unfold RK; omega) (by decide) (by omega) (by omega)) (fun i j i1 i2 => e _ _ (by unfold RK; omega) (by omega) (by omega) (by omega)))
  · exact RLg_cg a3.2 (fun j _ _ => e _ _ (by unfold RK; omega) (by decide) (by omega) (by omega)) (fun j => e _ _ (by unfold RK; omega) (by omega) (by omega) (by omega)) (em _ (by decide) (by decide) (by decide)) (fun k k1 k2 => em _ (by omega) (by omega) k2)
  · rw [e _ _ (by unfold RK; omega) (by decide) (by decide) (by decide)]; exact a5.2.2.2.1
  · rw [e _ _ (by unfold RK; omega) (by decide) (by decide) (by decide)]; exact a5.2.2.2.2.1
section FIR
variable {W : ax_W} {r : Nat} {g : Nat → Nat → Int}
def HM_law (g : Nat → Nat → Int) (zc : Int) (g1 : Nat → Nat → Int) : Prop := ∃ (T : Int → Int) (E : Int), (T = fun k => g 2 k.toNat) ∧ E = g 1 1 ∧ ((zc = 1 ∧ (∃ q, pLaw T E = Sum.inl q) ∧ frlW g g1 ∧ g1 1 1 = 0) ∨ (zc = 0 ∧ ∃ c1 l1 f1 G1 G, pLaw T E = Sum.inr (c1, l1) ∧ lwT T E (fSA T E g) G1 f1 c1 l1 ∧ (c1.length : Int) ≤ E ∧ l1.length ≤ 12 ∧ frlR g G ∧ G 1 1 = 0 ∧ G 0 16 = 0 ∧ G = fu (cpLw (fu G1 0 18 (G1 34 1)) 35 8) 0 16 0 ∧ g1 = fu G 159 0 ((fJ (l1.length : Int) - 4 : Nat) : Int)))
theorem sp_w_law (hl : 1 ≤ W.lim) (hi : LI g) (hB : LB2 g) : fx W 1 26 117 0 [2, 1274, 7] [] g (fun k v g1 => k = 1 ∧ ∃ zc, v = fI zc ∧ 0 ≤ zc ∧ zc ≤ 3 ∧ HM_law g zc g1) := by
  obtain ⟨⟨b1, b2, b3, b4, b5, b6, b7, b8, b9⟩, -, bt, -⟩ := hB
  refine sp_wg_law (P := fun kd v g1 => (∃ q, kd = 2 ∧ pLaw (fun k => g 2 k.toNat) (g 1 1) = Sum.inl q ∧ frlW g g1 ∧ g1 1 1 = 0) ∨ (kd = 1 ∧ ∃ c1 l1 f1 G1, v = fI (l1.length : Int) ∧ pLaw (fun k => g 2 k.toNat) (g 1 1) = Sum.inr (c1, l1) ∧ lwT (fun k => g 2 k.toNat) (g 1 1) (fSA (fun k => g 2 k.toNat) (g 1 1) g) G1 f1 c1 l1 ∧ (c1.length : Int) ≤ g 1 1 ∧ l1.length ≤ 12 ∧ frlR g g1 ∧ g1 1 1 = 0 ∧ g1 0 16 = 0 ∧ g1 = fu (cpLw (fu G1 0 18 (G1 34 1)) 35 8) 0 16 0)) hl ?_ (fun kd v g1 hp => ?_)
  · exact fx.up (sp_claw (T := fun k => g 2 k.toNat) (Nat.le_refl 1) (fun k k0 k1 => ⟨rfl, bt k.toNat (by omega)⟩) rfl b7.1 b7.2
      (fun q t g' f1 f2 f3 => Or.inl ⟨q, rfl, t, f1, f2⟩)
      (fun c1 l1 t G1 f1 g' x1 x2 x3 x4 x5 x6 x7 => Or.inr ⟨rfl, c1, l1, f1, G1, rfl, t, x1, x2, x3, x4, x5, x6, x7⟩)) (Nat.le_refl _) (by decide)
  · rcases hp with ⟨q, rfl, t, f1, f2⟩ | ⟨rfl, c1, l1, f1, G1, rfl, t, x1, x2, x3, x4, x5, x6, x7⟩
    · exact Or.inr ⟨rfl, rfl, 1, rfl, by decide, by decide, _, _, rfl, rfl, Or.inl ⟨rfl, ⟨q, t⟩, f1, f2⟩⟩
    · exact Or.inl ⟨rfl, _, rfl, by unfold fR; omega, rfl, 0, rfl, by decide, by decide, _, _, rfl, rfl, Or.inr ⟨rfl, c1, l1, f1, G1, g1, t, x1, x2, x3, x4, x5, x6, x7, rfl⟩⟩
theorem sp_r_law {zc : Int} {g1 : Nat → Nat → Int} (hi : LI g) (hB : LB2 g) (hm : HM_law g zc g1) : fx W r 35 294 0 [1186, 7, 7] [] g1 (PMa g1 zc) := by
  obtain ⟨⟨b1, b2, b3, b4, b5, b6, b7, b8, b9⟩, ⟨d1, d2, d3, d4, d5, d6, d7⟩, bt, -⟩ := hB
  have hl : g 1 1 = g 148 8 := hi.2.2.2.2.1
  obtain ⟨T, E, eT, eE, hm⟩ := hm
  have hT : ∀ k : Int, 0 ≤ k → k < 400 → 0 ≤ T k ∧ T k ≤ 255 := fun k k0 k1 => by rw [eT]; exact bt k.toNat (by omega)
  have hE0 : 0 ≤ E := by rw [eE]; exact b7.1
  have hE1 : E ≤ 400 := by rw [eE]; exact b7.2
  have up : ∀ c j, 148 ≤ c → c ≠ 159 → g1 c j = g c j := fun c j a a2 => by
    rcases hm with ⟨-, -, f1, -⟩ | ⟨-, c1, l1, f1, G1, G, -, -, -, -, x4, -, -, -, rfl⟩
    · exact f1 c j (by omega) (by omega) (by omega)
    · rw [fu_nc a2]; exact x4 c j (by omega) (by omega) (by omega) (by omega)
  have em : g1 149 = g 149 := by funext j; exact up _ _ (by decide) (by decide)
  refine fx.up (sp_mlawB (T := T) (E := E) (fun k k0 k1 => ?_) (by rw [up _ _ (by decide) (by decide), ← hl, eE]) hE0 hE1 (by rw [up _ _ (by decide) (by decide)]; omega) (by rw [up _ _ (by decide) (by decide)]; omega) ?_ ?_) (Nat.le_refl _) (by decide)
  · rw [up _ _ (by decide) (by decide), eT]
    exact ⟨(hi.1.1 k.toNat (by omega)).symm, bt k.toNat (by omega)⟩
  · intro q t g' m0 m1 m2 m3
    rcases hm with ⟨rfl, -, f1, f2⟩ | ⟨-, c1, l1, f1, G1, G, t2, -⟩
    · have k : ∀ c j, ¬ (34 ≤ c ∧ c ≤ 40) → ¬ (c = 1 ∧ j = 1) → ¬ (c = 0 ∧ j = 18) → ¬ (c = 148 ∧ (j = 0 ∨ (8 ≤ j ∧ j ≤ 13) ∨ j = 17 ∨ j = 18 ∨ j = 19)) → g' c j = g c j := fun c j a1 a2 a3 a4 => by
        rw [← f1 c j a1 a2 a3]; exact m0 c j a4
      refine ⟨rfl, 0, rfl, by unfold fR; decide, LI_cg hi (fun c j q => k c j (by unfold RK at q; omega) (by unfold RK at q; omega) (by unfold RK at q; omega) (by unfold RK at q; omega)) (fun c j q q2 q3 => k c j (by unfold fPk at q; omega) (by unfold fPk at q; omega) (by unfold fPk at q; omega) (by unfold fPk at q; omega)) ?_, m2, fun t => absurd t (by decide), m0 _ _ (by decide)⟩
      rw [m0 _ _ (by decide), f2, m1]
    · rw [pLaw_L t] at t2; cases t2
  · intro segs t g' m0 m1 m2 m3 m4 m5 m6 m7 m8 m9
    obtain ⟨c2, l2, t3, t4⟩ := pLaw_R t
    rcases hm with ⟨-, ⟨q, t2⟩, -⟩ | ⟨rfl, c1, l1, f1, G1, G, t2, x1, x2, x3, x4, x5, x6, x7, h1⟩
    · rw [t3] at t2; cases t2
    · have el : l1.length = segs.length := by
        rw [t3] at t2
        cases t2
        exact t4
      have k : ∀ c j, ¬ (8 ≤ c ∧ c ≤ 13) → ¬ (34 ≤ c ∧ c ≤ 40) → ¬ (c = 1 ∧ j = 1) → ¬ (c = 0 ∧ (j = 18 ∨ j = 16)) → c ≠ 159 → ¬ (c = 148 ∧ (j = 0 ∨ j = 6 ∨ (8 ≤ j ∧ j ≤ 13) ∨ j = 17 ∨ j = 18 ∨ j = 19)) → ¬ (c = 149 ∧ (j = 1 ∨ j = 2 ∨ 364 ≤ j)) → g' c j = g c j := fun c j a1 a2 a3 a4 a5 a6 a7 => by
        rw [m0 c j a6 a7, h1, fu_nc a5]; exact x4 c j a1 a2 a3 a4
      have lo : ∀ c j, c < 148 → g' c j = G c j := fun c j hc => by
        rw [m0 c j (by omega) (by omega), h1, fu_nc (by omega)]
      have emm : ∀ k, k ≠ 1 → k ≠ 2 → k < 364 → g' 149 k = g 149 k := fun j j1 j2 j3 => k _ _ (by decide) (by decide) (by omega) (by omega) (by decide) (by omega) (by omega)
      refine ⟨rfl, _, rfl, by unfold fR; omega, ⟨RMain_0 hi.1 b2.2 (fun c j q q1 q2 q3 => k c j (by unfold RK at q; omega) (by unfold RK at q; omega) (by unfold RK at q; omega) (by unfold RK at q; omega) (by unfold RK at q; omega) (by unfold RK at q; omega) (by omega)) emm (by rw [lo _ _ (by decide)]; exact x6) m4, ⟨RBd_12 emm hi.2.1.1, fun r hr => by rw [m4] at hr; omega⟩, ?_, ?_, ?_, ?_⟩, m2, fun _ => ?_, m0 _ _ (by decide) (by decide)⟩
      · exact RLw_law (g2 := G) hi.2.2.1 hT (fun k hk => by rw [eT]; show g _ k.toNat = g _ (0 : Int).toNat; rw [show k.toNat = 0 by omega]; rfl) hE0 hE1 t t2 x1 x2 x7 m5 m6 m7 (fun j hj => by rw [m8 j hj, em]) m9 (lo _ _ (by decide)) (fun i j i1 i2 => lo _ _ (by omega))
      · exact RImg_cg hi.2.2.2.1 (fun c j q => k c j (by omega) (by omega) (by omega) (by omega) (by omega) (by omega) (by omega)) (k _ _ (by decide) (by decide) (by decide) (by decide) (by decide) (by decide) (by decide))
      · rw [lo _ _ (by decide), x5, m1]
      · rw [k 0 15 (by decide) (by decide) (by decide) (by decide) (by decide) (by decide) (by decide), k 148 3 (by decide) (by decide) (by decide) (by decide) (by decide) (by decide) (by decide)]
        exact hi.2.2.2.2.2
      · rw [h1, fu_eq, el]
end FIR
end
