/-! fx: acts on both sides -/
/-- places of the main relation -/
def RK (c j : Nat) : Prop := c = 2 ∨ (3 ≤ c ∧ c ≤ 7) ∨ (16 ≤ c ∧ c ≤ 21) ∨ (76 ≤ c ∧ c ≤ 147) ∨ (c = 0 ∧ (j = 17 ∨ j = 16)) ∨ c = 149 ∨ c = 152 ∨ c = 153 ∨ (c = 148 ∧ j = 6)
theorem RMain_cg {g g2 : Nat → Nat → Int} (h : RMain g) (e : ∀ c j, RK c j → g2 c j = g c j) : RMain g2 := by
  obtain ⟨a1, a2, a3, a4, a5⟩ := h
  have em : g2 149 = g 149 := by
    funext j
    exact e _ _ (by unfold RK; omega)
  refine ⟨fun j hj => ?_, ?_, ?_, by rw [em]; exact a4, RPs_cg a5 (fun c j h1 h2 => e c j (by unfold RK; omega)) (e _ _ (by unfold RK; omega)) (e _ _ (by unfold RK; omega)) (fun j => e _ _ (by unfold RK; omega)) (e _ _ (by unfold RK; omega)) (fun k _ => by rw [em])⟩
  · rw [e _ _ (by unfold RK; omega), e 153 _ (by unfold RK; omega)]; exact a1 j hj
  · rw [em]; exact RHf_eq a2 (fun j _ _ => e _ _ (by unfold RK; omega)) (fun i j i1 i2 => e _ _ (by unfold RK; omega))
  · rw [em]; exact RTb_cg a3 (fun j _ _ => e _ _ (by unfold RK; omega)) (fun i j i1 i2 => e _ _ (by unfold RK; omega)) (fun _ _ => rfl)
/-- all is as it was where it is kept alike, the lengths of the tapes apart -/
theorem LI_cg {g g2 : Nat → Nat → Int} (h : LI g) (e : ∀ c j, RK c j → g2 c j = g c j) (e2 : ∀ c j, fPk c j → ¬ (c = 1 ∧ j = 1) → ¬ (c = 148 ∧ j = 8) → g2 c j = g c j) (el : g2 1 1 = g2 148 8) : LI g2 := by
  obtain ⟨a1, a2, a3, a4, a5, a6⟩ := h
  have em : g2 149 = g 149 := by
    funext j
    exact e _ _ (by unfold RK; omega)
  refine ⟨RMain_cg a1 e, RBs_cg a2 (fun j => e _ _ (by unfold RK; omega)) (e _ _ (by unfold RK; omega)) (by rw [em]; exact a2.1), ?_, RImg_cg a4 (fun c j q => e2 c j (by unfold fPk; omega) (by omega) (by omega)) (e2 _ _ (by unfold fPk; omega) (by decide) (by decide)), el, ?_⟩
  · rw [em]
    exact RLw_eq a3 (e2 _ _ (by unfold fPk; omega) (by decide) (by decide)) (fun i j i1 i2 => e2 _ _ (by unfold fPk; omega) (by omega) (by omega)) (fun _ _ => rfl)
  · rw [e2 0 15 (by unfold fPk; omega) (by decide) (by decide), e2 148 3 (by unfold fPk; omega) (by decide) (by decide)]; exact a6
theorem LI_th {g : Nat → Nat → Int} {z : Int} (h : LI g) : LI (fu g 148 0 z) := LI_cg h (fun c j k => fu_ne (by unfold RK at k; omega)) (fun c j k _ _ => fu_ne (by unfold fPk at k; omega)) (by rw [fu_nc (by decide), fu_nj (by decide)]; exact h.2.2.2.2.1)
theorem LI_out {g : Nat → Nat → Int} {z : Int} (h : LI g) : LI (fu g 159 0 z) := LI_cg h (fun c j k => fu_ne (by unfold RK at k; omega)) (fun c j k _ _ => fu_ne (by unfold fPk at k; omega)) (by rw [fu_nc (by decide), fu_nc (by decide)]; exact h.2.2.2.2.1)
/-- the law's head, of the whole state -/
def LInv2 (g : Nat → Nat → Int) : Prop := gHs g ∧ LI g
/-- what the reference has said, and what holds then; zc: what the class has said -/
def PMa (g1 : Nat → Nat → Int) (zc : Int) (k w : Nat) (g2 : Nat → Nat → Int) : Prop := k = 1 ∧ ∃ zw, w = fI zw ∧ fR zw ∧ LI g2 ∧ g2 148 0 = zc ∧ (zc = 0 → g1 159 0 = ((fJ zw - 4 : Nat) : Int)) ∧ g2 159 0 = g1 159 0
theorem PMa_no {g1 : Nat → Nat → Int} {zc : Int} (h : LI g1) (hz : zc ≠ 0) : PMa g1 zc 1 (fI 0) (fu g1 148 0 zc) := ⟨rfl, 0, rfl, by unfold fR; decide, LI_th h, fu_eq _ _ _ _, fun t => absurd t hz, fu_nc (by decide)⟩
theorem LB2_cg {g g2 : Nat → Nat → Int} (h : LB2 g) (e : ∀ c j, c ≠ 159 → ¬ (c = 148 ∧ j = 0) → g2 c j = g c j) : LB2 g2 := by
  obtain ⟨⟨a1, a2, a3, a4, a5, a6, a7, a8, a9⟩, ⟨b1, b2, b3, b4, b5, b6, b7⟩, c1, c2, c3, c4, c5, c6⟩ := h
  have f : ∀ c j, c ≠ 159 → c ≠ 148 → g2 c j = g c j := fun c j h1 h2 => e c j h1 (fun t => h2 t.1)
  refine ⟨⟨?_, ?_, ?_, ?_, ?_, ?_, ?_, ?_, ?_⟩, ⟨?_, ?_, ?_, ?_, ?_, ?_, ?_⟩, fun j hj => ?_, fun j hj => ?_, fun j hj => ?_, fun j hj => ?_, fun j hj => ?_, fun j hj => ?_⟩
  · rw [f _ _ (by decide) (by decide)]; exact a1
  · rw [f _ _ (by decide) (by decide)]; exact a2
  · rw [f _ _ (by decide) (by decide)]; exact a3
  · rw [f _ _ (by decide) (by decide)]; exact a4
  · rw [f _ _ (by decide) (by decide)]; exact a5
  · rw [f _ _ (by decide) (by decide)]; exact a6
  · rw [f _ _ (by decide) (by decide)]; exact a7
  · rw [f _ _ (by decide) (by decide)]; exact a8
  · rw [f _ _ (by decide) (by decide)]; exact a9
  · rw [e _ _ (by decide) (by decide)]; exact b1
  · rw [f _ _ (by decide) (by decide)]; exact b2
  · rw [f _ _ (by decide) (by decide)]; exact b3
  · rw [f _ _ (by decide) (by decide)]; exact b4
  · rw [f _ _ (by decide) (by decide)]; exact b5
  · rw [e _ _ (by decide) (by decide)]; exact b6
  · rw [e _ _ (by decide) (by decide)]; exact b7
  · rw [f _ _ (by decide) (by decide)]; exact c1 j hj
  · rw [f _ _ (by decide) (by decide)]; exact c2 j hj
  · rw [f _ _ (by decide) (by decide)]; exact c3 j hj
  · rw [f _ _ (by decide) (by decide)]; exact c4 j hj
  · rw [f _ _ (by decide) (by decide)]; exact c5 j hj
  · rw [f _ _ (by decide) (by decide)]; exact c6 j hj
theorem mRem_cg {g G : Nat → Nat → Int} (e : ∀ c j, 148 ≤ c → c ≠ 159 → ¬ (c = 148 ∧ j = 0) → G c j = g c j) {c j : Nat} (h1 : 148 ≤ c) (h2 : c ≠ 159) (h3 : ¬ (c = 148 ∧ j = 0)) : mRem G c j = mRem g c j := by
  have ea := e 148 6 (by decide) (by decide) (by decide)
  unfold mRem mActs
  rw [ea]
  by_cases c1 : c = 152
  · rw [if_pos c1, if_pos c1]
    simp only [e 149 _ (by decide) (by decide) (fun t => absurd t.1 (by decide)), e 152 _ (by decide) (by decide) (fun t => absurd t.1 (by decide))]
  · rw [if_neg c1, if_neg c1]
    by_cases c2 : c = 148 ∧ j = 6
    · rw [if_pos c2, if_pos c2]
    · rw [if_neg c2, if_neg c2]
      exact e c j h1 h2 h3
/-- an act that both sides remember: the states, but for what the class has said -/
theorem act_st {g E g1 g2 : Nat → Nat → Int} {t' : Nat → Int} {z : Int} (eE : ∀ c j, 148 ≤ c → E c j = g c j) (h1 : g1 = fu E 159 0 z) (h2 : g2 = frow (mRem (fu g1 148 0 0)) t') : (∀ c j, c < 148 → fu g2 159 0 (g 159 0) c j = E c j) ∧ (∀ c j, 148 ≤ c → ¬ (c = 148 ∧ j = 0) → fu g2 159 0 (g 159 0) c j = frow (mRem g) t' c j) ∧ (∀ c j, ¬ (c = 159 ∧ j = 0) → g2 c j = fu g2 159 0 (g 159 0) c j) ∧ g2 159 0 = z ∧ g2 148 0 = 0 ∧ (∀ k, g2 149 k = t' k) := by
  have k1 : ∀ c j, 148 ≤ c → c ≠ 159 → ¬ (c = 148 ∧ j = 0) → fu g1 148 0 0 c j = g c j := fun c j a b d => by
    rw [fu_ne d, h1, fu_nc b]; exact eE c j a
  refine ⟨fun c j hc => ?_, fun c j hc hj => ?_, fun c j h => (fu_ne h).symm, ?_, ?_, fun k => by rw [h2, frow_m]⟩
  · rw [fu_nc (by omega), h2, frow_ne (by omega), mRem_ne (by omega) (by omega), fu_nc (by omega), h1, fu_nc (by omega)]
  · by_cases c1 : c = 149
    · subst c1
      rw [fu_nc (by decide), h2, frow_m, frow_m]
    · rw [frow_ne c1]
      by_cases c2 : c = 159
      · subst c2
        rw [mRem_ne (by decide) (fun t => absurd t.1 (by decide))]
        by_cases c3 : j = 0
        · subst c3; rw [fu_eq]
        · rw [fu_nj c3, h2, frow_ne (by decide), mRem_ne (by decide) (fun t => absurd t.1 (by decide)), fu_nc (by decide), h1, fu_nj c3]
          exact eE _ _ (by decide)
      · rw [fu_nc c2, h2, frow_ne c1]
        exact mRem_cg k1 hc c2 hj
  · rw [h2, frow_ne (by decide), mRem_ne (by decide) (fun t => absurd t.1 (by decide)), fu_nc (by decide), h1, fu_eq]
  · rw [h2, frow_ne (by decide), mRem_ne (by decide) (by decide), fu_eq]
/-- an act that both sides remember keeps all alike -/
theorem act_LI {g E g1 g2 : Nat → Nat → Int} {t' : Nat → Int} {z : Int} (h : LI g) (b : LB2 g) (eE : ∀ c j, 148 ≤ c → E c j = g c j) (eP : ∀ c j, fPk c j → c < 148 → E c j = g c j) (h1 : g1 = fu E 159 0 z) (h2 : g2 = frow (mRem (fu g1 148 0 0)) t') (et : ∀ k, k = 1 ∨ k = 2 ∨ (364 ≤ k ∧ k < 764) → t' k = g 149 k) (hb : RBd t') (hM : RMain (fu g2 159 0 (g 159 0))) : LI g2 := by
  obtain ⟨s1, s2, s3, s4, s5, s6⟩ := act_st eE h1 h2
  have bA := b.2.1.1
  refine LI_act h (fun c j k => ?_) (fun k hk => by rw [s6]; exact et k hk) (RMain_cg hM (fun c j k => s3 c j (by unfold RK at k; omega))) (RBs_rem h.2.1 bA (fun j => ?_) ?_ ?_)
  · have k' := k
    unfold fPk at k'
    rw [s3 c j (by omega)]
    by_cases hc : c < 148
    · rw [s1 c j hc]; exact eP c j k hc
    · rw [s2 c j (by omega) (by omega), frow_ne (by omega), mRem_ne (by omega) (by omega)]
  · rw [s3 _ _ (by omega), s2 _ _ (by omega) (by omega), frow_ne (by decide)]
    unfold mRem
    rw [if_pos rfl]
  · rw [s3 _ _ (by omega), s2 _ _ (by omega) (by omega), frow_ne (by decide)]
    unfold mRem
    rw [if_neg (by decide), if_pos ⟨rfl, rfl⟩]
  · have e : g2 149 = t' := funext s6
    rw [e]; exact hb
/-! bounds of a row that acts change -/
theorem RBd_u {t : Nat → Int} {k : Nat} {v : Int} (h : RBd t) (hk : k ≠ 0 ∧ k ≠ 7 ∧ k ≠ 8 ∧ (k < 12 ∨ 68 ≤ k ∨ ((k - 12) % 7 ≠ 1 ∧ (k - 12) % 7 ≠ 2 ∧ (k - 12) % 7 ≠ 6))) : RBd (tU t k v) := by
  obtain ⟨h1, h2, h3, h4⟩ := h
  refine ⟨by rw [tU_ne (by omega)]; exact h1, by rw [tU_ne (by omega)]; exact h2, fun p hp => ?_, by rw [tU_ne (by omega)]; exact h4⟩
  rw [tU_ne (by omega), tU_ne (by omega), tU_ne (by omega)]
  exact h3 p hp
theorem RBd_c {t : Nat → Int} {p : Nat} {v : Int} (h : RBd t) (hp : p < 8) (v0 : 0 ≤ v) (v1 : v ≤ 99) : RBd (tU t (12 + 7 * p + 6) v) := by
  obtain ⟨h1, h2, h3, h4⟩ := h
  refine ⟨by rw [tU_ne (by omega)]; exact h1, by rw [tU_ne (by omega)]; exact h2, fun q hq => ?_, by rw [tU_ne (by omega)]; exact h4⟩
  rw [tU_ne (by omega), tU_ne (j := 13 + 7 * q) (by omega)]
  refine ⟨(h3 q hq).1, ?_, (h3 q hq).2.2⟩
  by_cases e : q = p
  · subst e; rw [show 18 + 7 * q = 12 + 7 * q + 6 by omega, tU_eq]; exact ⟨v0, v1⟩
  · rw [tU_ne (by omega)]; exact (h3 q hq).2.1
theorem RBd_v {t : Nat → Int} {p : Nat} {v : Int} (h : RBd t) (hp : p < 8) (v0 : 0 ≤ v) (v1 : v ≤ 20) : RBd (tU t (12 + 7 * p + 1) v) := by
  obtain ⟨h1, h2, h3, h4⟩ := h
  refine ⟨by rw [tU_ne (by omega)]; exact h1, by rw [tU_ne (by omega)]; exact h2, fun q hq => ?_, by rw [tU_ne (by omega)]; exact h4⟩
  rw [tU_ne (by omega), tU_ne (j := 18 + 7 * q) (by omega)]
  refine ⟨(h3 q hq).1, (h3 q hq).2.1, ?_⟩
  by_cases e : q = p
  · subst e; rw [show 13 + 7 * q = 12 + 7 * q + 1 by omega, tU_eq]; exact ⟨v0, v1⟩
  · rw [tU_ne (by omega)]; exact (h3 q hq).2.2
theorem RBd_i {t : Nat → Int} {v : Int} (h : RBd t) (v0 : 0 ≤ v) (v1 : v ≤ 9999) : RBd (tU t 8 v) := by
  obtain ⟨h1, h2, h3, h4⟩ := h
  refine ⟨by rw [tU_ne (by omega)]; exact h1, by rw [tU_eq]; exact ⟨v0, v1⟩, fun q hq => ?_, by rw [tU_ne (by omega)]; exact h4⟩
  rw [tU_ne (by omega), tU_ne (by omega), tU_ne (by omega)]
  exact h3 q hq
theorem RBd_n {t : Nat → Int} {p k w : Int} (h : RBd t) : RBd (tNote t p k w) := by
  have tn : ∀ j, j < 124 → j ≠ 10 → tNote t p k w j = t j := fun j h1 h2 => by
    unfold tNote
    rw [if_neg h2, if_neg (by omega), if_neg (by omega), if_neg (by omega), if_neg (by omega), if_neg (by omega)]
  obtain ⟨h1, h2, h3, h4⟩ := h
  refine ⟨by rw [tn _ (by decide) (by decide)]; exact h1, by rw [tn _ (by decide) (by decide)]; exact h2, fun q hq => ?_, by rw [tn _ (by decide) (by decide)]; exact h4⟩
  rw [tn _ (by omega) (by omega), tn _ (by omega) (by omega), tn _ (by omega) (by omega)]
  exact h3 q hq
theorem tNote_hi {t : Nat → Int} {p k w : Int} {j : Nat} (h : j < 10 ∨ 364 ≤ j) : tNote t p k w j = t j := by
  unfold tNote
  rw [if_neg (by omega), if_neg (by omega), if_neg (by omega), if_neg (by omega), if_neg (by omega), if_neg (by omega)]
theorem cNote_hi {g : Nat → Nat → Int} {p k w : Int} {c j : Nat} (h : c < 16 ∨ 21 < c) : cNote 16 g p k w c j = g c j := cNote_ne (by omega) (by omega)
theorem cRem_hi {g : Nat → Nat → Int} {i c j : Nat} (hi : i < 12) (h : 148 ≤ c) : cRem g i c j = g c j := cRem_ne hi (by omega) (Or.inr (by omega))
theorem cRem_pk {g : Nat → Nat → Int} {i c j : Nat} (hi : i < 12) (h : fPk c j) (hc : c < 148) : cRem g i c j = g c j := by
  unfold fPk at h
  exact cRem_ne hi (by omega) (Or.inl (by omega))
