/-! fx: the text of the law keeps all alike -/
theorem RHf_12 {t t' : Nat → Int} (e : ∀ k, k ≠ 1 → k ≠ 2 → k < 364 → t' k = t k) {h : Nat} {g : Nat → Nat → Int} (q : RHf h g t) (hd : g h 5 ≤ 6) : RHf h g t' := by
  obtain ⟨a1, a2, a3, a4, a5, a6, a7, a8, a9, a10⟩ := q
  refine ⟨?_, ?_, ?_, ?_, ?_, ?_, fun p hp => ?_, fun p hp => ?_, fun j hj => ?_, fun j hj => ?_⟩
  · rw [e _ (by decide) (by decide) (by decide)]; exact a1
  · rw [e _ (by decide) (by decide) (by decide)]; exact a2
  · rw [e _ (by decide) (by decide) (by decide)]; exact a3
  · rw [e _ (by decide) (by decide) (by decide)]; exact a4
  · rw [e _ (by decide) (by decide) (by decide)]; exact a5
  · rw [e _ (by decide) (by decide) (by decide)]; exact a6
  · rw [e _ (by omega) (by omega) (by omega)]; exact a7 p hp
  · rw [e _ (by omega) (by omega) (by omega)]; exact a8 p hp
  · rw [e _ (by omega) (by omega) (by omega)]; exact a9 j hj
  · rw [e _ (by omega) (by omega) (by omega)]; exact a10 j hj
theorem RTf_12 {t t' : Nat → Int} (e : ∀ k, k ≠ 1 → k ≠ 2 → k < 364 → t' k = t k) {b : Nat} {g : Nat → Nat → Int} (q : RTf b g t) : RTf b g t' := by
  obtain ⟨a1, a2, a3, a4, a5, a6, a7, a8⟩ := q
  refine ⟨fun p hp => ?_, fun p hp => ?_, fun p hp => ?_, fun p hp => ?_, fun p hp => ?_, ?_, ?_, ?_⟩
  · rw [e _ (by omega) (by omega) (by omega)]; exact a1 p hp
  · rw [e _ (by omega) (by omega) (by omega)]; exact a2 p hp
  · rw [e _ (by omega) (by omega) (by omega)]; exact a3 p hp
  · rw [e _ (by omega) (by omega) (by omega)]; exact a4 p hp
  · rw [e _ (by omega) (by omega) (by omega)]; exact a5 p hp
  · rw [e _ (by decide) (by decide) (by decide)]; exact a6
  · rw [e _ (by decide) (by decide) (by decide)]; exact a7
  · rw [e _ (by decide) (by decide) (by decide)]; exact a8
theorem RIv_12 {t t' : Nat → Int} (e : ∀ k, k ≠ 1 → k ≠ 2 → k < 364 → t' k = t k) (q : RIv t) : RIv t' := by
  obtain ⟨a1, a2, a3⟩ := q
  refine ⟨fun p hp => ?_, fun p hp => ?_, fun p hp => ?_⟩
  · rw [e _ (by omega) (by omega) (by omega), e _ (by omega) (by omega) (by omega)]; exact a1 p hp
  · rw [e _ (by omega) (by omega) (by omega), e _ (by omega) (by omega) (by omega)]; exact a2 p hp
  · rw [e _ (by omega) (by omega) (by omega), e _ (by omega) (by omega) (by omega)]; exact a3 p hp
theorem RBd_12 {t t' : Nat → Int} (e : ∀ k, k ≠ 1 → k ≠ 2 → k < 364 → t' k = t k) (q : RBd t) : RBd t' := by
  obtain ⟨a1, a2, a3, a4⟩ := q
  refine ⟨?_, ?_, fun p hp => ?_, ?_⟩
  · rw [e _ (by decide) (by decide) (by decide)]; exact a1
  · rw [e _ (by decide) (by decide) (by decide)]; exact a2
  · rw [e _ (by omega) (by omega) (by omega), e _ (by omega) (by omega) (by omega), e _ (by omega) (by omega) (by omega)]; exact a3 p hp
  · rw [e _ (by decide) (by decide) (by decide)]; exact a4
theorem RMain_0 {g g2 : Nat → Nat → Int} (h : RMain g) (hd : g 3 5 ≤ 6) (e : ∀ c j, RK c j → c ≠ 149 → ¬ (c = 0 ∧ j = 16) → ¬ (c = 148 ∧ j = 6) → g2 c j = g c j) (em : ∀ k, k ≠ 1 → k ≠ 2 → k < 364 → g2 149 k = g 149 k) (p0 : g2 0 16 = 0) (a0 : g2 148 6 = 0) : RMain g2 := by
  obtain ⟨a1, a2, a3, a4, a5⟩ := h
  refine ⟨fun j hj => ?_, ?_, ⟨?_, ?_⟩, RIv_12 em a4, RPs_0 p0 a0 ?_ ?_⟩
  · rw [e _ _ (by unfold RK; omega) (by decide) (by omega) (by omega), e 153 _ (by unfold RK; omega) (by decide) (by omega) (by omega)]; exact a1 j hj
  · exact RHf_12 em (RHf_eq a2 (fun j _ _ => e _ _ (by unfold RK; omega) (by decide) (by omega) (by omega)) (fun i j i1 i2 => e _ _ (by unfold RK; omega) (by omega) (by omega) (by omega))) (by rw [e _ _ (by unfold RK; omega) (by decide) (by decide) (by decide)]; exact hd)
  · exact RTf_12 em (RTf_eq a3.1 (fun j _ _ => e _ _ (by unfold RK; omega) (by decide) (by omega) (by omega)) (fun i j i1 i2 => e _ _ (by unfold RK; omega) (by omega) (by omega) (by omega)))
  · exact RLg_cg a3.2 (fun j _ _ => e _ _ (by unfold RK; omega) (by decide) (by omega) (by omega)) (fun j => e _ _ (by unfold RK; omega) (by omega) (by omega) (by omega)) (em _ (by decide) (by decide) (by decide)) (fun k k1 k2 => em _ (by omega) (by omega) k2)
  · rw [e _ _ (by unfold RK; omega) (by decide) (by decide) (by decide)]; exact a5.2.2.2.1
  · rw [e _ _ (by unfold RK; omega) (by decide) (by decide) (by decide)]; exact a5.2.2.2.2.1
section FIR
variable {W : ax_W} {r : Nat} {g : Nat → Nat → Int}
def HM_law (g : Nat → Nat → Int) (zc : Int) (g1 : Nat → Nat → Int) : Prop := ∃ (T : Int → Int) (E : Int), (T = fun k => g 2 k.toNat) ∧ E = g 1 1 ∧ ((zc = 1 ∧ (∃ q, pLaw T E = Sum.inl q) ∧ frlW g g1 ∧ g1 1 1 = 0) ∨ (zc = 0 ∧ ∃ c1 l1 f1 G1 G, pLaw T E = Sum.inr (c1, l1) ∧ lwT T E (fSA T E g) G1 f1 c1 l1 ∧ (c1.length : Int) ≤ E ∧ l1.length ≤ 12 ∧ frlR g G ∧ G 1 1 = 0 ∧ G 0 16 = 0 ∧ G = fu (cpLw (fu G1 0 18 (G1 34 1)) 35 8) 0 16 0 ∧ g1 = fu G 159 0 ((fJ (l1.length : Int) - 4 : Nat) : Int)))
theorem sp_w_law (hl : 1 ≤ W.lim) (hi : LI g) (hB : LB2 g) : fx W 1 26 117 0 [2, 1274, 7] [] g (fun k v g1 => k = 1 ∧ ∃ zc, v = fI zc ∧ 0 ≤ zc ∧ zc ≤ 3 ∧ HM_law g zc g1) := by
  obtain ⟨⟨b1, b2, b3, b4, b5, b6, b7, b8, b9⟩, -, bt, -⟩ := hB
  refine sp_wg_law (P := fun kd v g1 => (∃ q, kd = 2 ∧ pLaw (fun k => g 2 k.toNat) (g 1 1) = Sum.inl q ∧ frlW g g1 ∧ g1 1 1 = 0) ∨ (kd = 1 ∧ ∃ c1 l1 f1 G1, v = fI (l1.length : Int) ∧ pLaw (fun k => g 2 k.toNat) (g 1 1) = Sum.inr (c1, l1) ∧ lwT (fun k => g 2 k.toNat) (g 1 1) (fSA (fun k => g 2 k.toNat) (g 1 1) g) G1 f1 c1 l1 ∧ (c1.length : Int) ≤ g 1 1 ∧ l1.length ≤ 12 ∧ frlR g g1 ∧ g1 1 1 = 0 ∧ g1 0 16 = 0 ∧ g1 = fu (cpLw (fu G1 0 18 (G1 34 1)) 35 8) 0 16 0)) hl ?_ (fun kd v g1 hp => ?_)
  · exact fx.up (sp_claw (T := fun k => g 2 k.toNat) (Nat.le_refl 1) (fun k k0 k1 => ⟨rfl, bt k.toNat (by omega)⟩) rfl b7.1 b7.2
      (fun q t g' f1 f2 f3 => Or.inl ⟨q, rfl, t, f1, f2⟩)
      (fun c1 l1 t G1 f1 g' x1 x2 x3 x4 x5 x6 x7 => Or.inr ⟨rfl, c1, l1, f1, G1, rfl, t, x1, x2, x3, x4, x5, x6, x7⟩)) (Nat.le_refl _) (by decide)
  · rcases hp with ⟨q, rfl, t, f1, f2⟩ | ⟨rfl, c1, l1, f1, G1, rfl, t, x1, x2, x3, x4, x5, x6, x7⟩
    · exact Or.inr ⟨rfl, rfl, 1, rfl, by decide, by decide, _, _, rfl, rfl, Or.inl ⟨rfl, ⟨q, t⟩, f1, f2⟩⟩
    · exact Or.inl ⟨rfl, _, rfl, by unfold fR; omega, rfl, 0, rfl, by decide, by decide, _, _, rfl, rfl, Or.inr ⟨rfl, c1, l1, f1, G1, g1, t, x1, x2, x3, x4, x5, x6, x7, rfl⟩⟩
theorem sp_r_law {zc : Int} {g1 : Nat → Nat → Int} (hi : LI g) (hB : LB2 g) (hm : HM_law g zc g1) : fx W r 35 295 0 [1186, 7, 7] [] g1 (PMa g1 zc) := by
  obtain ⟨⟨b1, b2, b3, b4, b5, b6, b7, b8, b9⟩, ⟨d1, d2, d3, d4, d5, d6, d7⟩, bt, -⟩ := hB
  have hl : g 1 1 = g 148 8 := hi.2.2.2.2.1
  obtain ⟨T, E, eT, eE, hm⟩ := hm
  have hT : ∀ k : Int, 0 ≤ k → k < 400 → 0 ≤ T k ∧ T k ≤ 255 := fun k k0 k1 => by rw [eT]; exact bt k.toNat (by omega)
  have hE0 : 0 ≤ E := by rw [eE]; exact b7.1
  have hE1 : E ≤ 400 := by rw [eE]; exact b7.2
  have up : ∀ c j, 148 ≤ c → c ≠ 159 → g1 c j = g c j := fun c j a a2 => by
    rcases hm with ⟨-, -, f1, -⟩ | ⟨-, c1, l1, f1, G1, G, -, -, -, -, x4, -, -, -, rfl⟩
    · exact f1 c j (by omega) (by omega) (by omega)
    · rw [fu_nc a2]; exact x4 c j (by omega) (by omega) (by omega) (by omega)
  have em : g1 149 = g 149 := by funext j; exact up _ _ (by decide) (by decide)
  refine fx.up (sp_mlawB (T := T) (E := E) (fun k k0 k1 => ?_) (by rw [up _ _ (by decide) (by decide), ← hl, eE]) hE0 hE1 (by rw [up _ _ (by decide) (by decide)]; omega) (by rw [up _ _ (by decide) (by decide)]; omega) ?_ ?_) (Nat.le_refl _) (by decide)
  · rw [up _ _ (by decide) (by decide), eT]
    exact ⟨(hi.1.1 k.toNat (by omega)).symm, bt k.toNat (by omega)⟩
  · intro q t g' m0 m1 m2 m3
    rcases hm with ⟨rfl, -, f1, f2⟩ | ⟨-, c1, l1, f1, G1, G, t2, -⟩
    · have k : ∀ c j, ¬ (34 ≤ c ∧ c ≤ 40) → ¬ (c = 1 ∧ j = 1) → ¬ (c = 0 ∧ j = 18) → ¬ (c = 148 ∧ (j = 0 ∨ (8 ≤ j ∧ j ≤ 13) ∨ j = 17 ∨ j = 18 ∨ j = 19)) → g' c j = g c j := fun c j a1 a2 a3 a4 => by
        rw [← f1 c j a1 a2 a3]; exact m0 c j a4
      refine ⟨rfl, 0, rfl, by unfold fR; decide, LI_cg hi (fun c j q => k c j (by unfold RK at q; omega) (by unfold RK at q; omega) (by unfold RK at q; omega) (by unfold RK at q; omega)) (fun c j q q2 q3 => k c j (by unfold fPk at q; omega) (by unfold fPk at q; omega) (by unfold fPk at q; omega) (by unfold fPk at q; omega)) ?_, m2, fun t => absurd t (by decide), m0 _ _ (by decide)⟩
      rw [m0 _ _ (by decide), f2, m1]
    · rw [pLaw_L t] at t2; cases t2
  · intro segs t g' m0 m1 m2 m3 m4 m5 m6 m7 m8 m9
    obtain ⟨c2, l2, t3, t4⟩ := pLaw_R t
    rcases hm with ⟨-, ⟨q, t2⟩, -⟩ | ⟨rfl, c1, l1, f1, G1, G, t2, x1, x2, x3, x4, x5, x6, x7, h1⟩
    · rw [t3] at t2; cases t2
    · have el : l1.length = segs.length := by
        rw [t3] at t2
        cases t2
        exact t4
      have k : ∀ c j, ¬ (8 ≤ c ∧ c ≤ 13) → ¬ (34 ≤ c ∧ c ≤ 40) → ¬ (c = 1 ∧ j = 1) → ¬ (c = 0 ∧ (j = 18 ∨ j = 16)) → c ≠ 159 → ¬ (c = 148 ∧ (j = 0 ∨ j = 6 ∨ (8 ≤ j ∧ j ≤ 13) ∨ j = 17 ∨ j = 18 ∨ j = 19)) → ¬ (c = 149 ∧ (j = 1 ∨ j = 2 ∨ 364 ≤ j)) → g' c j = g c j := fun c j a1 a2 a3 a4 a5 a6 a7 => by
        rw [m0 c j a6 a7, h1, fu_nc a5]; exact x4 c j a1 a2 a3 a4
      have lo : ∀ c j, c < 148 → g' c j = G c j := fun c j hc => by
        rw [m0 c j (by omega) (by omega), h1, fu_nc (by omega)]
      have emm : ∀ k, k ≠ 1 → k ≠ 2 → k < 364 → g' 149 k = g 149 k := fun j j1 j2 j3 => k _ _ (by decide) (by decide) (by omega) (by omega) (by decide) (by omega) (by omega)
      refine ⟨rfl, _, rfl, by unfold fR; omega, ⟨RMain_0 hi.1 b2.2 (fun c j q q1 q2 q3 => k c j (by unfold RK at q; omega) (by unfold RK at q; omega) (by unfold RK at q; omega) (by unfold RK at q; omega) (by unfold RK at q; omega) (by unfold RK at q; omega) (by omega)) emm (by rw [lo _ _ (by decide)]; exact x6) m4, ⟨RBd_12 emm hi.2.1.1, fun r hr => by rw [m4] at hr; omega⟩, ?_, ?_, ?_, ?_⟩, m2, fun _ => ?_, m0 _ _ (by decide) (by decide)⟩
      · exact RLw_law (g2 := G) hi.2.2.1 hT (fun k hk => by rw [eT]; show g _ k.toNat = g _ (0 : Int).toNat; rw [show k.toNat = 0 by omega]; rfl) hE0 hE1 t t2 x1 x2 x7 m5 m6 m7 (fun j hj => by rw [m8 j hj, em]) m9 (lo _ _ (by decide)) (fun i j i1 i2 => lo _ _ (by omega))
      · exact RImg_cg hi.2.2.2.1 (fun c j q => k c j (by omega) (by omega) (by omega) (by omega) (by omega) (by omega) (by omega)) (k _ _ (by decide) (by decide) (by decide) (by decide) (by decide) (by decide) (by decide))
      · rw [lo _ _ (by decide), x5, m1]
      · rw [k 0 15 (by decide) (by decide) (by decide) (by decide) (by decide) (by decide) (by decide), k 148 3 (by decide) (by decide) (by decide) (by decide) (by decide) (by decide) (by decide)]
        exact hi.2.2.2.2.2
      · rw [h1, fu_eq, el]
end FIR
