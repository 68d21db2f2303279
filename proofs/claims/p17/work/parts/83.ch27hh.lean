/-! fx: the reference remembers; what is remembered on both sides -/
noncomputable def mActs (g : Nat → Nat → Int) (j : Nat) : Int := if g 148 6 = 12 then (if 4004 ≤ j ∧ j < 4368 then g 149 (j - 4004) else if j < 4004 then g 152 (j + 364) else g 152 j) else (if 364 * (g 148 6).toNat ≤ j ∧ j < 364 * (g 148 6).toNat + 364 then g 149 (j - 364 * (g 148 6).toNat) else g 152 j)
noncomputable def mRem (g : Nat → Nat → Int) : Nat → Nat → Int := fun c j => if c = 152 then mActs g j else if c = 148 ∧ j = 6 then (if g 148 6 = 12 then 12 else g 148 6 + 1) else g c j
theorem mRem_ne {g : Nat → Nat → Int} {c j : Nat} (h1 : c ≠ 152) (h2 : ¬ (c = 148 ∧ j = 6)) : mRem g c j = g c j := by
  unfold mRem
  rw [if_neg h1, if_neg h2]
theorem mRem_m (g : Nat → Nat → Int) : mRem g 149 = g 149 := by funext j; exact mRem_ne (by decide) (fun t => absurd t.1 (by decide))
/-- places that acts leave as they are -/
def gHp (k : Nat) : Prop := k < 8 ∨ (12 ≤ k ∧ k < 68 ∧ ((k - 12) % 7 = 2 ∨ (k - 12) % 7 = 3)) ∨ (68 ≤ k ∧ k < 124)
def aRow (g : Nat → Nat → Int) (r : Nat) : Nat → Int := fun k => g 152 (364 * r + k)
/-- the table of the row r of what is remembered -/
def pTab (g : Nat → Nat → Int) (r : Nat) : Nat := 76 + 6 * (((g 0 17).toNat + 13 + r - (g 148 6).toNat) % 12)
def RPs (g : Nat → Nat → Int) : Prop := g 0 16 = g 148 6 ∧ 0 ≤ g 148 6 ∧ g 148 6 ≤ 12 ∧ 0 ≤ g 0 17 ∧ g 0 17 < 12 ∧ ∀ r : Nat, (r : Int) < g 148 6 → RTf (pTab g r) g (aRow g r) ∧ RLg (pTab g r) g (aRow g r) ∧ RIv (aRow g r) ∧ ∀ k, gHp k → aRow g r k = g 149 k
theorem RTf_t {b : Nat} {g : Nat → Nat → Int} {t t' : Nat → Int} (h : RTf b g t) (e : ∀ k, k < 364 → t' k = t k) : RTf b g t' := by
  obtain ⟨a1, a2, a3, a4, a5, a6, a7, a8⟩ := h
  refine ⟨fun p hp => ?_, fun p hp => ?_, fun p hp => ?_, fun p hp => ?_, fun p hp => ?_, ?_, ?_, ?_⟩
  · rw [e _ (by omega)]; exact a1 p hp
  · rw [e _ (by omega)]; exact a2 p hp
  · rw [e _ (by omega)]; exact a3 p hp
  · rw [e _ (by omega)]; exact a4 p hp
  · rw [e _ (by omega)]; exact a5 p hp
  · rw [e _ (by omega)]; exact a6
  · rw [e _ (by omega)]; exact a7
  · rw [e _ (by omega)]; exact a8
theorem RLg_t {b : Nat} {g : Nat → Nat → Int} {t t' : Nat → Int} (h : RLg b g t) (e : ∀ k, k < 364 → t' k = t k) : RLg b g t' := by
  obtain ⟨a1, a2, a3, a4, a5, a6⟩ := h
  have e10 := e 10 (by decide)
  refine ⟨a1, a2, by rw [e10]; exact a3, by rw [e10]; exact a4, by rw [e10]; exact a5, fun a ha => ?_⟩
  rw [e10] at ha
  rw [e _ (by omega), e _ (by omega), e _ (by omega), e _ (by omega)]
  exact a6 a ha
theorem RIv_t {t t' : Nat → Int} (h : RIv t) (e : ∀ k, k < 364 → t' k = t k) : RIv t' := by
  obtain ⟨a1, a2, a3⟩ := h
  refine ⟨fun p hp => ?_, fun p hp => ?_, fun p hp => ?_⟩
  · rw [e _ (by omega), e _ (by omega)]; exact a1 p hp
  · rw [e _ (by omega), e _ (by omega)]; exact a2 p hp
  · rw [e 3 (by decide), e _ (by omega)]; exact a3 p hp
theorem RLg_eq {b b' : Nat} {g g' : Nat → Nat → Int} {t : Nat → Int} (q : RLg b g t) (e1 : ∀ j, 5 ≤ j → j ≤ 6 → g' b' j = g b j) (e2 : ∀ j, g' (b' + 5) j = g (b + 5) j) : RLg b' g' t := by
  obtain ⟨a1, a2, a3, a4, a5, a6⟩ := q
  have e5 := e1 5 (by decide) (by decide)
  have e6 := e1 6 (by decide) (by decide)
  refine ⟨by rw [e5]; exact a1, by rw [e5]; exact a2, by rw [e6]; exact a3, a4, a5, fun a ha => ?_⟩
  rw [e5, e2]
  exact a6 a ha
/-- an act is remembered on both sides -/
theorem RPs_rem {g g2 : Nat → Nat → Int} {i : Nat} (h : RPs g) (hT : RTf 16 g (g 149)) (hL : RLg 16 g (g 149)) (hI : RIv (g 149)) (hi : i = ((g 0 17).toNat + 1) % 12)
    (e1 : ∀ c j, 76 ≤ c → c ≤ 147 → g2 c j = cRem g i c j) (e2 : g2 0 17 = (i : Int)) (e3 : g2 0 16 = (if g 0 16 < 12 then g 0 16 + 1 else g 0 16)) (e4 : ∀ j, g2 152 j = mActs g j) (e5 : g2 148 6 = (if g 148 6 = 12 then 12 else g 148 6 + 1)) (e6 : ∀ k, gHp k → g2 149 k = g 149 k) : RPs g2 := by
  obtain ⟨a1, a2, a3, a4, a5, a6⟩ := h
  have ecp : ∀ c j, 76 ≤ c → c ≤ 147 → cRem g i c j = cpT (fu g 0 17 (i : Int)) 16 (76 + 6 * i) c j := fun c j h1 h2 => by
    unfold cRem
    exact fu_nc (by omega)
  refine ⟨?_, ?_, ?_, by rw [e2]; omega, by rw [e2]; omega, fun r hr => ?_⟩
  · rw [e3, e5, a1]
    by_cases e : g 148 6 = 12
    · rw [if_neg (by omega), if_pos e]; exact e
    · rw [if_pos (by omega), if_neg e]
  · rw [e5]; split <;> omega
  · rw [e5]; split <;> omega
  · -- the row's table
    have hl : (r : Int) < 12 ∧ (g 148 6 = 12 ∨ (r : Int) ≤ g 148 6) := by rw [e5] at hr; split at hr <;> omega
    by_cases last : (g 148 6 = 12 ∧ r = 11) ∨ (g 148 6 ≠ 12 ∧ (r : Int) = g 148 6)
    · have row : ∀ k, k < 364 → aRow g2 r k = g 149 k := fun k hk => by
        unfold aRow
        rw [e4]
        unfold mActs
        rcases last with ⟨l1, l2⟩ | ⟨l1, l2⟩
        · rw [if_pos l1, if_pos (by omega), show 364 * r + k - 4004 = k by omega]
        · rw [if_neg l1, if_pos (by omega), show 364 * r + k - 364 * (g 148 6).toNat = k by omega]
      have tb : pTab g2 r = 76 + 6 * i := by
        unfold pTab
        rw [e2, e5]
        rcases last with ⟨l1, l2⟩ | ⟨l1, l2⟩
        · rw [if_pos l1]; omega
        · rw [if_neg l1]; omega
      rw [tb]
      have f1 : ∀ j, 5 ≤ j → j ≤ 10 → g2 (76 + 6 * i) j = g 16 j := fun j j1 j2 => by
        rw [e1 _ _ (by omega) (by omega), ecp _ _ (by omega) (by omega), cpT_f j1 j2, fu_nc (by decide)]
      have f2 : ∀ k j, 1 ≤ k → k ≤ 5 → g2 (76 + 6 * i + k) j = g (16 + k) j := fun k j j1 j2 => by
        rw [e1 _ _ (by omega) (by omega), ecp _ _ (by omega) (by omega), cpT_a j1 j2 (by omega), fu_nc (by omega)]
      refine ⟨RTf_t (RTf_eq hT (fun j j1 j2 => f1 j (by omega) j2) (fun k j j1 j2 => f2 k j j1 (by omega))) row, RLg_t (RLg_eq hL (fun j j1 j2 => f1 j j1 (by omega)) (fun j => f2 5 j (by decide) (by decide))) row, RIv_t hI row, fun k hk => ?_⟩
      rw [row k (by unfold gHp at hk; omega), e6 k hk]
    · -- an elder row: r0 was its number
      have old : ∃ r0 : Nat, (r0 : Int) < g 148 6 ∧ (∀ k, k < 364 → aRow g2 r k = aRow g r0 k) ∧ pTab g2 r = pTab g r0 ∧ pTab g r0 ≠ 76 + 6 * i ∧ ∃ q, q < 12 ∧ q ≠ i ∧ pTab g r0 = 76 + 6 * q := by
        by_cases l1 : g 148 6 = 12
        · refine ⟨r + 1, by omega, fun k hk => ?_, ?_, ?_, ((g 0 17).toNat + 13 + (r + 1) - (g 148 6).toNat) % 12, by omega, by omega, rfl⟩
          · unfold aRow
            rw [e4]
            unfold mActs
            rw [if_pos l1, if_neg (by omega), if_pos (by omega), show 364 * r + k + 364 = 364 * (r + 1) + k by omega]
          · unfold pTab
            rw [e2, e5, if_pos l1]; omega
          · unfold pTab; omega
        · refine ⟨r, by omega, fun k hk => ?_, ?_, ?_, ((g 0 17).toNat + 13 + r - (g 148 6).toNat) % 12, by omega, by omega, rfl⟩
          · unfold aRow
            rw [e4]
            unfold mActs
            rw [if_neg l1, if_neg (by omega)]
          · unfold pTab
            rw [e2, e5, if_neg l1]; omega
          · unfold pTab; omega
      obtain ⟨r0, q1, q2, q3, q4, q, q5, q6, q7⟩ := old
      obtain ⟨b1, b2, b3, b4⟩ := a6 r0 q1
      rw [q3]
      rw [q7] at b1 b2 ⊢
      have f0 : ∀ k j, k ≤ 5 → g2 (76 + 6 * q + k) j = g (76 + 6 * q + k) j := fun k j j1 => by
        rw [e1 _ _ (by omega) (by omega), ecp _ _ (by omega) (by omega), cpT_ne (by omega), fu_nc (by omega)]
      refine ⟨RTf_t (RTf_eq b1 (fun j _ _ => f0 0 j (by decide)) (fun k j j1 j2 => f0 k j (by omega))) q2, RLg_t (RLg_eq b2 (fun j _ _ => f0 0 j (by decide)) (fun j => f0 5 j (by decide))) q2, RIv_t b3 q2, fun k hk => ?_⟩
      rw [q2 k (by unfold gHp at hk; omega), b4 k hk, e6 k hk]
section FHH
variable {W : ax_W} {r : Nat} {g : Nat → Nat → Int} {Q : Nat → Nat → (Nat → Nat → Int) → Prop}
theorem sp_mrem (h0 : 0 ≤ g 148 6) (h1 : g 148 6 ≤ 12) (kq : Q 0 0 (mRem g)) : fx W r 0 320 0 [1186, 7] [] g Q := by
  refine fx_rg (fun hg => ?_)
  have fin : ∀ (G : Nat → Nat → Int) (a : Nat), a ≤ 11 → G 148 6 = a → Q 0 0 (fu (frw G a 364) 148 6 (a + 1)) → fx W r 0 320 52 [1186, fI 0] [] G Q := by
    intro G a ha hac hG
    have st := sp_rem_2 (W := W) (r := r) (Q := Q) (g := G) a ha hac ?_ 364 0 rfl
    · rw [frw_0] at st
      exact st
    · have ea : frw G a 364 148 6 = a := by rw [frw_nc (by decide)]; exact hac
      refine fx_la 0 87 (v := 1186) (by decide +kernel) rfl (by decide +kernel) ?_
      refine fx_dup 88 (by decide +kernel) rfl (by decide) ?_
      refine fx_gi 1186 148 6 91 (by decide +kernel) ?_
      rw [ea]
      refine fx_ci (1) 92 (by decide +kernel) ?_
      refine fx_add 93 (by decide +kernel) rfl ?_
      refine fx_pi 1186 148 6 96 (by decide +kernel) (by unfold fR; omega) ?_
      refine fx_vret (by decide +kernel) ?_
      exact hG
  refine fx_la 0 1 (v := 1186) (by decide +kernel) rfl (by decide +kernel) ?_
  refine fx_gi 1186 148 6 4 (by decide +kernel) ?_
  refine fx_ci (12) 6 (by decide +kernel) ?_
  refine fx_ine 50 9 (by decide +kernel) (by first | exact hg 148 6 (by decide) (by decide +kernel) (by decide +kernel) | (unfold fR; omega)) (by unfold fR; omega) (fun h6 => ?_) (fun h6 => ?_)
  · refine fx_ci (0) 51 (by decide +kernel) ?_
    refine fx_si 1 52 (by decide +kernel) (Or.inr (f_n4p (v := 1186) rfl (by decide))) rfl ?_
    dsimp only [List.set]
    refine fin g (g 148 6).toNat (by omega) (by omega) ?_
    have e : fu (frw g (g 148 6).toNat 364) 148 6 (((g 148 6).toNat : Int) + 1) = mRem g := by
      funext c j
      unfold fu frw mRem mActs
      by_cases e1 : c = 152
      · subst e1
        rw [if_neg (by omega), if_pos rfl, if_neg h6]
        by_cases e2 : 364 * (g 148 6).toNat ≤ j ∧ j < 364 * (g 148 6).toNat + 364
        · rw [if_pos ⟨rfl, e2⟩, if_pos e2]
        · rw [if_neg (fun t => e2 t.2), if_neg e2]
      · rw [if_neg e1]
        by_cases e2 : c = 148 ∧ j = 6
        · rw [if_pos e2, if_pos e2, if_neg h6]; omega
        · rw [if_neg e2, if_neg e2, if_neg (fun t => e1 t.1)]
    rw [e]
    exact kq
  · refine fx_ci (0) 10 (by decide +kernel) ?_
    refine fx_si 1 11 (by decide +kernel) (Or.inr (f_n4p (v := 1186) rfl (by decide))) rfl ?_
    dsimp only [List.set]
    have st := sp_rem_1 (W := W) (r := r) (Q := Q) (g := g) ?_ 4004 0 rfl
    · rw [fsh_0] at st
      exact st
    · have ea : fsh g 4004 148 6 = 12 := by rw [fsh_nc (by decide)]; exact h6
      refine fx_la 0 41 (v := 1186) (by decide +kernel) rfl (by decide +kernel) ?_
      refine fx_dup 42 (by decide +kernel) rfl (by decide) ?_
      refine fx_gi 1186 148 6 45 (by decide +kernel) ?_
      rw [ea]
      refine fx_ci (1) 46 (by decide +kernel) ?_
      refine fx_sub 47 (by decide +kernel) rfl ?_
      refine fx_pi 1186 148 6 50 (by decide +kernel) (by unfold fR; omega) ?_
      refine fx_ci (0) 51 (by decide +kernel) ?_
      refine fx_si 1 52 (by decide +kernel) (Or.inr (f_n4p (v := 1186) rfl (by decide))) rfl ?_
      dsimp only [List.set]
      refine fin _ 11 (by decide) (by rw [fu_eq]; rfl) ?_
      have e : fu (frw (fu (fsh g 4004) 148 6 (12 - 1)) 11 364) 148 6 (((11 : Nat) : Int) + 1) = mRem g := by
        funext c j
        unfold mRem mActs
        by_cases e1 : c = 152
        · subst e1
          rw [fu_nc (by decide), if_pos rfl, if_pos h6]
          unfold frw
          by_cases e2 : 4004 ≤ j ∧ j < 4368
          · rw [if_pos (by omega), if_pos e2, fu_nc (by decide), fsh_nc (by decide)]
          · rw [if_neg (by omega), if_neg e2, fu_nc (by decide)]
            unfold fsh
            by_cases e3 : j < 4004
            · rw [if_pos ⟨rfl, e3⟩, if_pos e3]
            · rw [if_neg (by omega), if_neg e3]
        · rw [if_neg e1]
          by_cases e2 : c = 148 ∧ j = 6
          · obtain ⟨rfl, rfl⟩ := e2
            rw [fu_eq, if_pos ⟨rfl, rfl⟩, if_pos h6]; rfl
          · rw [if_neg e2, fu_ne e2, frw_nc e1, fu_ne e2, fsh_nc e1]
      rw [e]
      exact kq
end FHH
