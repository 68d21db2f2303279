/-! joined: 83.ch27hh 83.ch28hi 83.ch29hj 83.ch30hk 83.ch31hl 83.ch32hm 83.ch33hn 83.ch34ho 83.ch35hp 83.ch36hq 83.ch37hr 83.ch38hs 83.ch39ht 83.ch40hu -/
section
/-! fx: the reference remembers; what is remembered on both sides -/
noncomputable def mActs (g : Nat → Nat → Int) (j : Nat) : Int := if g 148 6 = 12 then (if 4004 ≤ j ∧ j < 4368 then g 149 (j - 4004) else if j < 4004 then g 152 (j + 364) else g 152 j) else (if 364 * (g 148 6).toNat ≤ j ∧ j < 364 * (g 148 6).toNat + 364 then g 149 (j - 364 * (g 148 6).toNat) else g 152 j)
noncomputable def mRem (g : Nat → Nat → Int) : Nat → Nat → Int := fun c j => if c = 152 then mActs g j else if c = 148 ∧ j = 6 then (if g 148 6 = 12 then 12 else g 148 6 + 1) else g c j
theorem mRem_ne {g : Nat → Nat → Int} {c j : Nat} (h1 : c ≠ 152) (h2 : ¬ (c = 148 ∧ j = 6)) : mRem g c j = g c j := by
  unfold mRem
  rw [if_neg h1, if_neg h2]
theorem mRem_m (g : Nat → Nat → Int) : mRem g 149 = g 149 := by funext j; exact mRem_ne (by decide) (fun t => absurd t.1 (by decide))
/-- places that acts leave as they are -/
def gHp (k : Nat) : Prop := k < 8 ∨ (12 ≤ k ∧ k < 68 ∧ ((k - 12) % 7 = 2 ∨ (k - 12) % 7 = 3)) ∨ (68 ≤ k ∧ k < 124)
def aRow (g : Nat → Nat → Int) (r : Nat) : Nat → Int := fun k => g 152 (364 * r + k)
/-- the table of the row r of what is remembered -/
def pTab (g : Nat → Nat → Int) (r : Nat) : Nat := 76 + 6 * (((g 0 17).toNat + 13 + r - (g 148 6).toNat) % 12)
def RPs (g : Nat → Nat → Int) : Prop := g 0 16 = g 148 6 ∧ 0 ≤ g 148 6 ∧ g 148 6 ≤ 12 ∧ 0 ≤ g 0 17 ∧ g 0 17 < 12 ∧ ∀ r : Nat, (r : Int) < g 148 6 → RTf (pTab g r) g (aRow g r) ∧ RLg (pTab g r) g (aRow g r) ∧ RIv (aRow g r) ∧ ∀ k, gHp k → aRow g r k = g 149 k
theorem RTf_t {b : Nat} {g : Nat → Nat → Int} {t t' : Nat → Int} (h : RTf b g t) (e : ∀ k, k < 364 → t' k = t k) : RTf b g t' := by
  obtain ⟨a1, a2, a3, a4, a5, a6, a7, a8⟩ := h
  refine ⟨fun p hp => ?_, fun p hp => ?_, fun p hp => ?_, fun p hp => ?_, fun p hp => ?_, ?_, ?_, ?_⟩
  · rw [e _ (by omega)]; exact a1 p hp
  · rw [e _ (by omega)]; exact a2 p hp
  · rw [e _ (by omega)]; exact a3 p hp
  · rw [e _ (by omega)]; exact a4 p hp
  · rw [e _ (by omega)]; exact a5 p hp
  · rw [e _ (by omega)]; exact a6
  · rw [e _ (by omega)]; exact a7
  · rw [e _ (by omega)]; exact a8
theorem RLg_t {b : Nat} {g : Nat → Nat → Int} {t t' : Nat → Int} (h : RLg b g t) (e : ∀ k, k < 364 → t' k = t k) : RLg b g t' := by
  obtain ⟨a1, a2, a3, a4, a5, a6⟩ := h
  have e10 := e 10 (by decide)
  refine ⟨a1, a2, by rw [e10]; exact a3, by rw [e10]; exact a4, by rw [e10]; exact a5, fun a ha => ?_⟩
  rw [e10] at ha
  rw [e _ (by omega), e _ (by omega), e _ (by omega), e _ (by omega)]
  exact a6 a ha
theorem RIv_t {t t' : Nat → Int} (h : RIv t) (e : ∀ k, k < 364 → t' k = t k) : RIv t' := by
  obtain ⟨a1, a2, a3⟩ := h
  refine ⟨fun p hp => ?_, fun p hp => ?_, fun p hp => ?_⟩
  · rw [e _ (by omega), e _ (by omega)]; exact a1 p hp
  · rw [e _ (by omega), e _ (by omega)]; exact a2 p hp
  · rw [e 3 (by decide), e _ (by omega)]; exact a3 p hp
theorem RLg_eq {b b' : Nat} {g g' : Nat → Nat → Int} {t : Nat → Int} (q : RLg b g t) (e1 : ∀ j, 5 ≤ j → j ≤ 6 → g' b' j = g b j) (e2 : ∀ j, g' (b' + 5) j = g (b + 5) j) : RLg b' g' t := by
  obtain ⟨a1, a2, a3, a4, a5, a6⟩ := q
  have e5 := e1 5 (by decide) (by decide)
  have e6 := e1 6 (by decide) (by decide)
  refine ⟨by rw [e5]; exact a1, by rw [e5]; exact a2, by rw [e6]; exact a3, a4, a5, fun a ha => ?_⟩
  rw [e5, e2]
  exact a6 a ha
/-- an act is remembered on both sides -/
theorem RPs_rem {g g2 : Nat → Nat → Int} {i : Nat} (h : RPs g) (hT : RTf 16 g (g 149)) (hL : RLg 16 g (g 149)) (hI : RIv (g 149)) (hi : i = ((g 0 17).toNat + 1) % 12)
    (e1 : ∀ c j, 76 ≤ c → c ≤ 147 → g2 c j = cRem g i c j) (e2 : g2 0 17 = (i : Int)) (e3 : g2 0 16 = (if g 0 16 < 12 then g 0 16 + 1 else g 0 16)) (e4 : ∀ j, g2 152 j = mActs g j) (e5 : g2 148 6 = (if g 148 6 = 12 then 12 else g 148 6 + 1)) (e6 : ∀ k, gHp k → g2 149 k = g 149 k) : RPs g2 := by
  obtain ⟨a1, a2, a3, a4, a5, a6⟩ := h
  have ecp : ∀ c j, 76 ≤ c → c ≤ 147 → cRem g i c j = cpT (fu g 0 17 (i : Int)) 16 (76 + 6 * i) c j := fun c j h1 h2 => by
    unfold cRem
    exact fu_nc (by omega)
  refine ⟨?_, ?_, ?_, by rw [e2]; omega, by rw [e2]; omega, fun r hr => ?_⟩
  · rw [e3, e5, a1]
    by_cases e : g 148 6 = 12
    · rw [if_neg (by omega), if_pos e]; exact e
    · rw [if_pos (by omega), if_neg e]
  · rw [e5]; split <;> omega
  · rw [e5]; split <;> omega
  · -- the row's table
    have hl : (r : Int) < 12 ∧ (g 148 6 = 12 ∨ (r : Int) ≤ g 148 6) := by rw [e5] at hr; split at hr <;> omega
    by_cases last : (g 148 6 = 12 ∧ r = 11) ∨ (g 148 6 ≠ 12 ∧ (r : Int) = g 148 6)
    · have row : ∀ k, k < 364 → aRow g2 r k = g 149 k := fun k hk => by
        unfold aRow
        rw [e4]
        unfold mActs
        rcases last with ⟨l1, l2⟩ | ⟨l1, l2⟩
        · rw [if_pos l1, if_pos (by omega), show 364 * r + k - 4004 = k by omega]
        · rw [if_neg l1, if_pos (by omega), show 364 * r + k - 364 * (g 148 6).toNat = k by omega]
      have tb : pTab g2 r = 76 + 6 * i := by
        unfold pTab
        rw [e2, e5]
        rcases last with ⟨l1, l2⟩ | ⟨l1, l2⟩
        · rw [if_pos l1]; omega
        · rw [if_neg l1]; omega
      rw [tb]
      have f1 : ∀ j, 5 ≤ j → j ≤ 10 → g2 (76 + 6 * i) j = g 16 j := fun j j1 j2 => by
        rw [e1 _ _ (by omega) (by omega), ecp _ _ (by omega) (by omega), cpT_f j1 j2, fu_nc (by decide)]
      have f2 : ∀ k j, 1 ≤ k → k ≤ 5 → g2 (76 + 6 * i + k) j = g (16 + k) j := fun k j j1 j2 => by
        rw [e1 _ _ (by omega) (by omega), ecp _ _ (by omega) (by omega), cpT_a j1 j2 (by omega), fu_nc (by omega)]
      refine ⟨RTf_t (RTf_eq hT (fun j j1 j2 => f1 j (by omega) j2) (fun k j j1 j2 => f2 k j j1 (by omega))) row, RLg_t (RLg_eq hL (fun j j1 j2 => f1 j j1 (by omega)) (fun j => f2 5 j (by decide) (by decide))) row, RIv_t hI row, fun k hk => ?_⟩
      rw [row k (by unfold gHp at hk; omega), e6 k hk]
    · -- an elder row: r0 was its number
      have old : ∃ r0 : Nat, (r0 : Int) < g 148 6 ∧ (∀ k, k < 364 → aRow g2 r k = aRow g r0 k) ∧ pTab g2 r = pTab g r0 ∧ pTab g r0 ≠ 76 + 6 * i ∧ ∃ q, q < 12 ∧ q ≠ i ∧ pTab g r0 = 76 + 6 * q := by
        by_cases l1 : g 148 6 = 12
        · refine ⟨r + 1, by omega, fun k hk => ?_, ?_, ?_, ((g 0 17).toNat + 13 + (r + 1) - (g 148 6).toNat) % 12, by omega, by omega, rfl⟩
          · unfold aRow
            rw [e4]
            unfold mActs
            rw [if_pos l1, if_neg (by omega), if_pos (by omega), show 364 * r + k + 364 = 364 * (r + 1) + k by omega]
          · unfold pTab
            rw [e2, e5, if_pos l1]; omega
          · unfold pTab; omega
        · refine ⟨r, by omega, fun k hk => ?_, ?_, ?_, ((g 0 17).toNat + 13 + r - (g 148 6).toNat) % 12, by omega, by omega, rfl⟩
          · unfold aRow
            rw [e4]
            unfold mActs
            rw [if_neg l1, if_neg (by omega)]
          · unfold pTab
            rw [e2, e5, if_neg l1]; omega
          · unfold pTab; omega
      obtain ⟨r0, q1, q2, q3, q4, q, q5, q6, q7⟩ := old
      obtain ⟨b1, b2, b3, b4⟩ := a6 r0 q1
      rw [q3]
      rw [q7] at b1 b2 ⊢
      have f0 : ∀ k j, k ≤ 5 → g2 (76 + 6 * q + k) j = g (76 + 6 * q + k) j := fun k j j1 => by
        rw [e1 _ _ (by omega) (by omega), ecp _ _ (by omega) (by omega), cpT_ne (by omega), fu_nc (by omega)]
      refine ⟨RTf_t (RTf_eq b1 (fun j _ _ => f0 0 j (by decide)) (fun k j j1 j2 => f0 k j (by omega))) q2, RLg_t (RLg_eq b2 (fun j _ _ => f0 0 j (by decide)) (fun j => f0 5 j (by decide))) q2, RIv_t b3 q2, fun k hk => ?_⟩
      rw [q2 k (by unfold gHp at hk; omega), b4 k hk, e6 k hk]
section FHH
variable {W : ax_W} {r : Nat} {g : Nat → Nat → Int} {Q : Nat → Nat → (Nat → Nat → Int) → Prop}
theorem sp_mrem (h0 : 0 ≤ g 148 6) (h1 : g 148 6 ≤ 12) (kq : Q 0 0 (mRem g)) : fx W r 0 319 0 [1186, 7] [] g Q := by
  refine fx_rg (fun hg => ?_)
  have fin : ∀ (G : Nat → Nat → Int) (a : Nat), a ≤ 11 → G 148 6 = a → Q 0 0 (fu (frw G a 364) 148 6 (a + 1)) → fx W r 0 319 52 [1186, fI 0] [] G Q := by
    intro G a ha hac hG
    have st := sp_rem_2 (W := W) (r := r) (Q := Q) (g := G) a ha hac ?_ 364 0 rfl
    · rw [frw_0] at st
      exact st
    · have ea : frw G a 364 148 6 = a := by rw [frw_nc (by decide)]; exact hac
      refine fx_la 0 87 (v := 1186) (by decide +kernel) rfl (by decide +kernel) ?_
      refine fx_dup 88 (by decide +kernel) rfl (by decide) ?_
      refine fx_gi 1186 148 6 91 (by decide +kernel) ?_
      rw [ea]
      refine fx_ci (1) 92 (by decide +kernel) ?_
      refine fx_add 93 (by decide +kernel) rfl ?_
      refine fx_pi 1186 148 6 96 (by decide +kernel) (by unfold fR; omega) ?_
      refine fx_vret (by decide +kernel) ?_
      exact hG
  refine fx_la 0 1 (v := 1186) (by decide +kernel) rfl (by decide +kernel) ?_
  refine fx_gi 1186 148 6 4 (by decide +kernel) ?_
  refine fx_ci (12) 6 (by decide +kernel) ?_
  refine fx_ine 50 9 (by decide +kernel) (by first | exact hg 148 6 (by decide) (by decide +kernel) (by decide +kernel) | (unfold fR; omega)) (by unfold fR; omega) (fun h6 => ?_) (fun h6 => ?_)
  · refine fx_ci (0) 51 (by decide +kernel) ?_
    refine fx_si 1 52 (by decide +kernel) (Or.inr (f_n4p (v := 1186) rfl (by decide))) rfl ?_
    dsimp only [List.set]
    refine fin g (g 148 6).toNat (by omega) (by omega) ?_
    have e : fu (frw g (g 148 6).toNat 364) 148 6 (((g 148 6).toNat : Int) + 1) = mRem g := by
      funext c j
      unfold fu frw mRem mActs
      by_cases e1 : c = 152
      · subst e1
        rw [if_neg (by omega), if_pos rfl, if_neg h6]
        by_cases e2 : 364 * (g 148 6).toNat ≤ j ∧ j < 364 * (g 148 6).toNat + 364
        · rw [if_pos ⟨rfl, e2⟩, if_pos e2]
        · rw [if_neg (fun t => e2 t.2), if_neg e2]
      · rw [if_neg e1]
        by_cases e2 : c = 148 ∧ j = 6
        · rw [if_pos e2, if_pos e2, if_neg h6]; omega
        · rw [if_neg e2, if_neg e2, if_neg (fun t => e1 t.1)]
    rw [e]
    exact kq
  · refine fx_ci (0) 10 (by decide +kernel) ?_
    refine fx_si 1 11 (by decide +kernel) (Or.inr (f_n4p (v := 1186) rfl (by decide))) rfl ?_
    dsimp only [List.set]
    have st := sp_rem_1 (W := W) (r := r) (Q := Q) (g := g) ?_ 4004 0 rfl
    · rw [fsh_0] at st
      exact st
    · have ea : fsh g 4004 148 6 = 12 := by rw [fsh_nc (by decide)]; exact h6
      refine fx_la 0 41 (v := 1186) (by decide +kernel) rfl (by decide +kernel) ?_
      refine fx_dup 42 (by decide +kernel) rfl (by decide) ?_
      refine fx_gi 1186 148 6 45 (by decide +kernel) ?_
      rw [ea]
      refine fx_ci (1) 46 (by decide +kernel) ?_
      refine fx_sub 47 (by decide +kernel) rfl ?_
      refine fx_pi 1186 148 6 50 (by decide +kernel) (by unfold fR; omega) ?_
      refine fx_ci (0) 51 (by decide +kernel) ?_
      refine fx_si 1 52 (by decide +kernel) (Or.inr (f_n4p (v := 1186) rfl (by decide))) rfl ?_
      dsimp only [List.set]
      refine fin _ 11 (by decide) (by rw [fu_eq]; rfl) ?_
      have e : fu (frw (fu (fsh g 4004) 148 6 (12 - 1)) 11 364) 148 6 (((11 : Nat) : Int) + 1) = mRem g := by
        funext c j
        unfold mRem mActs
        by_cases e1 : c = 152
        · subst e1
          rw [fu_nc (by decide), if_pos rfl, if_pos h6]
          unfold frw
          by_cases e2 : 4004 ≤ j ∧ j < 4368
          · rw [if_pos (by omega), if_pos e2, fu_nc (by decide), fsh_nc (by decide)]
          · rw [if_neg (by omega), if_neg e2, fu_nc (by decide)]
            unfold fsh
            by_cases e3 : j < 4004
            · rw [if_pos ⟨rfl, e3⟩, if_pos e3]
            · rw [if_neg (by omega), if_neg e3]
        · rw [if_neg e1]
          by_cases e2 : c = 148 ∧ j = 6
          · obtain ⟨rfl, rfl⟩ := e2
            rw [fu_eq, if_pos ⟨rfl, rfl⟩, if_pos h6]; rfl
          · rw [if_neg e2, fu_ne e2, frw_nc e1, fu_ne e2, fsh_nc e1]
      rw [e]
      exact kq
end FHH
end
section
/-! fx: an act is undone on both sides -/
theorem RHf_t {h : Nat} {g : Nat → Nat → Int} {t t' : Nat → Int} (q : RHf h g t) (hd : g h 5 ≤ 6) (e : ∀ k, gHp k → t' k = t k) : RHf h g t' := by
  obtain ⟨a1, a2, a3, a4, a5, a6, a7, a8, a9, a10⟩ := q
  have e' : ∀ k, k < 8 → t' k = t k := fun k hk => e k (Or.inl hk)
  refine ⟨by rw [e' 3 (by decide)]; exact a1, by rw [e' 4 (by decide)]; exact a2, by rw [e' 0 (by decide)]; exact a3, by rw [e' 5 (by decide)]; exact a4, by rw [e' 6 (by decide)]; exact a5, by rw [e' 7 (by decide)]; exact a6, fun p hp => ?_, fun p hp => ?_, fun j hj => ?_, fun j hj => ?_⟩
  · rw [e _ (by unfold gHp; omega)]; exact a7 p hp
  · rw [e _ (by unfold gHp; omega)]; exact a8 p hp
  · rw [e _ (by unfold gHp; omega)]; exact a9 j hj
  · rw [e _ (by unfold gHp; omega)]; exact a10 j hj
/-- the reference goes back: an act fewer, the row as it was -/
def mUnd (g : Nat → Nat → Int) : Nat → Nat → Int := fun1 (fu g 148 6 (g 148 6 - 1)) (g 148 6 - 1).toNat 364
theorem mUnd_ne {g : Nat → Nat → Int} {c j : Nat} (h1 : c ≠ 149) (h2 : ¬ (c = 148 ∧ j = 6)) : mUnd g c j = g c j := by
  unfold mUnd
  rw [fun1_nc h1, fu_ne h2]
theorem mUnd_m {g : Nat → Nat → Int} {j : Nat} : mUnd g 149 j = if j < 364 then g 152 (364 * (g 148 6 - 1).toNat + j) else g 149 j := by
  unfold mUnd fun1
  by_cases e : j < 364
  · rw [if_pos ⟨rfl, e⟩, if_pos e, fu_nc (by decide)]
  · rw [if_neg (fun t => e t.2), if_neg e, fu_nc (by decide)]
theorem mUnd_a {g : Nat → Nat → Int} : mUnd g 148 6 = g 148 6 - 1 := by
  unfold mUnd
  rw [fun1_nc (by decide), fu_eq]
theorem RPs_und {g g2 : Nat → Nat → Int} {i : Nat} (h : RPs g) (hc : 1 ≤ g 148 6) (hi : g 0 17 = (i : Int))
    (e1 : ∀ c j, 16 ≤ c → c ≤ 147 → g2 c j = cUnd g i c j) (e2 : g2 0 17 = (((i + 11) % 12 : Nat) : Int)) (e3 : g2 0 16 = g 0 16 - 1) (e4 : ∀ j, g2 152 j = g 152 j) (e5 : g2 148 6 = g 148 6 - 1) (e6 : ∀ k, k < 364 → g2 149 k = g 152 (364 * (g 148 6 - 1).toNat + k)) :
    RPs g2 ∧ RTf 16 g2 (g2 149) ∧ RLg 16 g2 (g2 149) ∧ RIv (g2 149) ∧ ∀ k, gHp k → g2 149 k = g 149 k := by
  obtain ⟨a1, a2, a3, a4, a5, a6⟩ := h
  have ecp : ∀ c j, 16 ≤ c → c ≤ 147 → g2 c j = cpT g (76 + 6 * i) 16 c j := fun c j h1 h2 => by
    rw [e1 c j h1 h2]
    unfold cUnd
    rw [fu_nc (by omega), fu_nc (by omega)]
  have hr : ((g 148 6 - 1).toNat : Int) < g 148 6 := by omega
  obtain ⟨b1, b2, b3, b4⟩ := a6 _ hr
  have tb : pTab g (g 148 6 - 1).toNat = 76 + 6 * i := by
    unfold pTab
    omega
  rw [tb] at b1 b2
  have row : ∀ k, k < 364 → g2 149 k = aRow g (g 148 6 - 1).toNat k := fun k hk => e6 k hk
  have hm : ∀ k, gHp k → g2 149 k = g 149 k := fun k hk => (row k (by unfold gHp at hk; omega)).trans (b4 k hk)
  have f1 : ∀ j, 5 ≤ j → j ≤ 10 → g2 16 j = g (76 + 6 * i) j := fun j j1 j2 => by
    rw [ecp _ _ (by decide) (by decide), cpT_f j1 j2]
  have f2 : ∀ k j, 1 ≤ k → k ≤ 5 → g2 (16 + k) j = g (76 + 6 * i + k) j := fun k j j1 j2 => by
    rw [ecp _ _ (by omega) (by omega), cpT_a j1 j2 (by omega)]
  refine ⟨⟨by rw [e3, e5, a1], by rw [e5]; omega, by rw [e5]; omega, by rw [e2]; omega, by rw [e2]; omega, fun r hr => ?_⟩, RTf_t (RTf_eq b1 (fun j j1 j2 => f1 j (by omega) j2) (fun k j j1 j2 => f2 k j j1 (by omega))) row, RLg_t (RLg_eq b2 (fun j j1 j2 => f1 j j1 (by omega)) (fun j => f2 5 j (by decide) (by decide))) row, RIv_t b3 row, hm⟩
  rw [e5] at hr
  obtain ⟨d1, d2, d3, d4⟩ := a6 r (by omega)
  have ar : aRow g2 r = aRow g r := by
    funext k
    exact e4 _
  have tb2 : pTab g2 r = pTab g r := by
    unfold pTab
    rw [e2, e5]
    omega
  rw [ar, tb2]
  have f0 : ∀ k j, k ≤ 5 → g2 (pTab g r + k) j = g (pTab g r + k) j := fun k j j1 => by
    rw [ecp _ _ (by unfold pTab; omega) (by unfold pTab; omega), cpT_ne (by unfold pTab; omega)]
  refine ⟨RTf_eq d1 (fun j _ _ => f0 0 j (by decide)) (fun k j j1 j2 => f0 k j (by omega)), RLg_eq d2 (fun j _ _ => f0 0 j (by decide)) (fun j => f0 5 j (by decide)), d3, fun k hk => ?_⟩
  rw [d4 k hk, hm k hk]
section FHI
variable {W : ax_W} {r : Nat} {g : Nat → Nat → Int} {Q : Nat → Nat → (Nat → Nat → Int) → Prop}
theorem sp_mund (h0 : 0 ≤ g 148 6) (h1 : g 148 6 ≤ 12) (k0 : g 148 6 = 0 → Q 1 (fI 0) (fu g 148 0 0)) (kq : 1 ≤ g 148 6 → Q 1 (fI 1) (mUnd (fu g 148 0 0))) : fx W r 0 407 0 [1186, 7] [] g Q := by
  refine fx_rg (fun hg => ?_)
  refine fx_la 0 1 (v := 1186) (by decide +kernel) rfl (by decide +kernel) ?_
  refine fx_ci (0) 2 (by decide +kernel) ?_
  refine fx_pi 1186 148 0 5 (by decide +kernel) (by unfold fR; omega) ?_
  refine fx_la 0 6 (v := 1186) (by decide +kernel) rfl (by decide +kernel) ?_
  refine fx_gi 1186 148 6 9 (by decide +kernel) ?_
  try simp only [fu_app, fcy_app, Nat.reduceEqDiff, and_true, and_false, false_and, true_and, if_true, if_false, ite_true, ite_false, reduceIte, Int.reduceToNat, fx_simp0]
  refine fx_zne 14 12 (by decide +kernel) (by unfold fR; omega) (fun h9 => ?_) (fun h9 => ?_)
  · refine fx_la 0 15 (v := 1186) (by decide +kernel) rfl (by decide +kernel) ?_
    refine fx_dup 16 (by decide +kernel) rfl (by decide) ?_
    refine fx_gi 1186 148 6 19 (by decide +kernel) ?_
    try simp only [fu_app, fcy_app, Nat.reduceEqDiff, and_true, and_false, false_and, true_and, if_true, if_false, ite_true, ite_false, reduceIte, Int.reduceToNat, fx_simp0]
    refine fx_ci (1) 20 (by decide +kernel) ?_
    refine fx_sub 21 (by decide +kernel) rfl ?_
    refine fx_pi 1186 148 6 24 (by decide +kernel) (by unfold fR; omega) ?_
    refine fx_ci (0) 25 (by decide +kernel) ?_
    refine fx_si 1 26 (by decide +kernel) (Or.inr (f_n4p (v := 1186) rfl (by decide))) rfl ?_
    dsimp only [List.set]
    have hac : fu (fu g 148 0 0) 148 6 (g 148 6 - 1) 148 6 = ((g 148 6 - 1).toNat : Int) := by rw [fu_eq]; omega
    have st := sp_undo_1 (W := W) (r := r) (Q := Q) (g := fu (fu g 148 0 0) 148 6 (g 148 6 - 1)) (g 148 6 - 1).toNat (by omega) hac ?_ 364 0 rfl
    · rw [fun1_0] at st
      exact st
    · have kq := kq (by omega)
      unfold mUnd at kq
      rw [fu_nj (by decide)] at kq
      exact kq
  · refine fx_ci (0) 13 (by decide +kernel) ?_
    refine fx_retb (by decide +kernel) (by first | exact Or.inl rfl | exact Or.inr rfl | omega) ?_
    exact k0 (by omega)
end FHI
end
section
/-! fx: a place of a table and of its row anew -/
/-- a table with its log -/
def RTb (b : Nat) (g : Nat → Nat → Int) (t : Nat → Int) : Prop := RTf b g t ∧ RLg b g t
/-- the same table, the same row -/
theorem RTb_cg {b b' : Nat} {g g' : Nat → Nat → Int} {t t' : Nat → Int} (h : RTb b g t) (e1 : ∀ j, 5 ≤ j → j ≤ 10 → g' b' j = g b j) (e2 : ∀ k j, 1 ≤ k → k ≤ 5 → g' (b' + k) j = g (b + k) j) (e : ∀ k, k < 364 → t' k = t k) : RTb b' g' t' :=
  ⟨RTf_t (RTf_eq h.1 (fun j j1 j2 => e1 j (by omega) j2) (fun k j j1 j2 => e2 k j j1 (by omega))) e, RLg_t (RLg_eq h.2 (fun j j1 j2 => e1 j j1 (by omega)) (fun j => e2 5 j (by decide) (by decide))) e⟩
theorem RLg_cg {b : Nat} {g g' : Nat → Nat → Int} {t t' : Nat → Int} (h : RLg b g t) (e1 : ∀ j, 5 ≤ j → j ≤ 6 → g' b j = g b j) (e2 : ∀ j, g' (b + 5) j = g (b + 5) j) (e0 : t' 10 = t 10) (e : ∀ k, 124 ≤ k → k < 364 → t' k = t k) : RLg b g' t' := by
  obtain ⟨a1, a2, a3, a4, a5, a6⟩ := h
  have e5 := e1 5 (by decide) (by decide)
  have e6 := e1 6 (by decide) (by decide)
  refine ⟨by rw [e5]; exact a1, by rw [e5]; exact a2, by rw [e6, e0]; exact a3, by rw [e0]; exact a4, by rw [e0]; exact a5, fun a ha => ?_⟩
  rw [e0] at ha
  rw [e5, e2, e _ (by omega) (by omega), e _ (by omega) (by omega), e _ (by omega) (by omega), e _ (by omega) (by omega)]
  exact a6 a ha
/-- places, votes, promises, cold nights -/
theorem RTb_a {b : Nat} {g : Nat → Nat → Int} {t : Nat → Int} {p i w : Nat} {v : Int} (h : RTb b g t) (hp : p < 8) (hi : (i = 1 ∧ w = 0) ∨ (i = 2 ∧ w = 1) ∨ (i = 3 ∧ w = 4) ∨ (i = 4 ∧ w = 6)) : RTb b (fu g (b + i) p v) (tU t (12 + 7 * p + w) v) := by
  refine ⟨?_, RLg_cg h.2 (fun j _ _ => fu_nc (by omega)) (fun j => fu_nc (by omega)) (tU_ne (by omega)) (fun k k1 k2 => tU_ne (by omega))⟩
  obtain ⟨a1, a2, a3, a4, a5, a6, a7, a8⟩ := h.1
  have one : ∀ (k u : Nat), (k = 1 ∧ u = 0) ∨ (k = 2 ∧ u = 1) ∨ (k = 3 ∧ u = 4) ∨ (k = 4 ∧ u = 6) → (∀ q : Nat, q < 8 → g (b + k) q = t (12 + 7 * q + u)) → ∀ q : Nat, q < 8 → fu g (b + i) p v (b + k) q = tU t (12 + 7 * p + w) v (12 + 7 * q + u) := fun k u hk e q hq => by
    by_cases c : k = i ∧ q = p
    · obtain ⟨rfl, rfl⟩ := c
      have : u = w := by omega
      subst this
      rw [fu_eq, tU_eq]
    · rw [fu_ne (by omega), tU_ne (by omega)]
      exact e q hq
  refine ⟨fun q hq => one 1 0 (by omega) a1 q hq, fun q hq => ?_, fun q hq => ?_, fun q hq => ?_, fun q hq => ?_, ?_, ?_, ?_⟩
  · rw [show 13 + 7 * q = 12 + 7 * q + 1 by omega]
    exact one 2 1 (by omega) (fun q hq => by rw [show 12 + 7 * q + 1 = 13 + 7 * q by omega]; exact a2 q hq) q hq
  · rw [show 16 + 7 * q = 12 + 7 * q + 4 by omega]
    exact one 3 4 (by omega) (fun q hq => by rw [show 12 + 7 * q + 4 = 16 + 7 * q by omega]; exact a3 q hq) q hq
  · rw [show 18 + 7 * q = 12 + 7 * q + 6 by omega]
    exact one 4 6 (by omega) (fun q hq => by rw [show 12 + 7 * q + 6 = 18 + 7 * q by omega]; exact a4 q hq) q hq
  · rw [fu_nc (by omega), tU_ne (by omega)]; exact a5 q hq
  · rw [fu_nc (by omega), tU_ne (by omega)]; exact a6
  · rw [fu_nc (by omega), tU_ne (by omega)]; exact a7
  · rw [fu_nc (by omega), tU_ne (by omega)]; exact a8
/-- iron, the night, the draws -/
theorem RTb_f {b : Nat} {g : Nat → Nat → Int} {t : Nat → Int} {j k : Nat} {v : Int} (h : RTb b g t) (hi : (j = 8 ∧ k = 8) ∨ (j = 9 ∧ k = 9) ∨ (j = 10 ∧ k = 11)) : RTb b (fu g b j v) (tU t k v) := by
  refine ⟨?_, RLg_cg h.2 (fun j' _ _ => fu_nj (by omega)) (fun j' => fu_nc (by omega)) (tU_ne (by omega)) (fun k' k1 k2 => tU_ne (by omega))⟩
  obtain ⟨a1, a2, a3, a4, a5, a6, a7, a8⟩ := h.1
  have one : ∀ (j' k' : Nat), (j' = 8 ∧ k' = 8) ∨ (j' = 9 ∧ k' = 9) ∨ (j' = 10 ∧ k' = 11) → g b j' = t k' → fu g b j v b j' = tU t k v k' := fun j' k' hj e => by
    by_cases c : j' = j
    · subst c
      have : k' = k := by omega
      subst this
      rw [fu_eq, tU_eq]
    · rw [fu_nj c, tU_ne (by omega)]
      exact e
  refine ⟨fun q hq => ?_, fun q hq => ?_, fun q hq => ?_, fun q hq => ?_, fun q hq => ?_, one 8 8 (by omega) a6, one 9 9 (by omega) a7, one 10 11 (by omega) a8⟩
  · rw [fu_nc (by omega), tU_ne (by omega)]; exact a1 q hq
  · rw [fu_nc (by omega), tU_ne (by omega)]; exact a2 q hq
  · rw [fu_nc (by omega), tU_ne (by omega)]; exact a3 q hq
  · rw [fu_nc (by omega), tU_ne (by omega)]; exact a4 q hq
  · rw [fu_nj (by omega), tU_ne (by omega)]; exact a5 q hq
/-- who is held to be dead -/
theorem RTb_d {b : Nat} {g : Nat → Nat → Int} {t : Nat → Int} {p : Nat} {v z : Int} (h : RTb b g t) (hp : p < 8) (hv : ∀ q : Nat, q < 8 → fbt v q = if q = p then z else fbt (g b 7) q) : RTb b (fu g b 7 v) (tU t (12 + 7 * p + 5) z) := by
  refine ⟨?_, RLg_cg h.2 (fun j' _ _ => fu_nj (by omega)) (fun j' => fu_nc (by omega)) (tU_ne (by omega)) (fun k' k1 k2 => tU_ne (by omega))⟩
  obtain ⟨a1, a2, a3, a4, a5, a6, a7, a8⟩ := h.1
  refine ⟨fun q hq => ?_, fun q hq => ?_, fun q hq => ?_, fun q hq => ?_, fun q hq => ?_, ?_, ?_, ?_⟩
  · rw [fu_nc (by omega), tU_ne (by omega)]; exact a1 q hq
  · rw [fu_nc (by omega), tU_ne (by omega)]; exact a2 q hq
  · rw [fu_nc (by omega), tU_ne (by omega)]; exact a3 q hq
  · rw [fu_nc (by omega), tU_ne (by omega)]; exact a4 q hq
  · rw [fu_eq, hv q hq]
    by_cases c : q = p
    · subst c
      rw [if_pos rfl, show 17 + 7 * q = 12 + 7 * q + 5 by omega, tU_eq]
    · rw [if_neg c, tU_ne (by omega)]
      exact a5 q hq
  · rw [fu_nj (by omega), tU_ne (by omega)]; exact a6
  · rw [fu_nj (by omega), tU_ne (by omega)]; exact a7
  · rw [fu_nj (by omega), tU_ne (by omega)]; exact a8
/-- a row of the log -/
theorem RTb_note {b : Nat} {g : Nat → Nat → Int} {t : Nat → Int} {p k w : Int} (h : RTb b g t) (n0 : 0 ≤ t 9) (n1 : t 9 ≤ 9999) (p0 : 0 ≤ p) (p1 : p ≤ 7) (k0 : 0 ≤ k) (k1 : k ≤ 3) (w0 : 0 ≤ w) (w1 : w ≤ 7) : RTb b (cNote b g p k w) (tNote t p k w) := by
  refine ⟨?_, RLg_note h.2 h.1.2.2.2.2.2.2.1 n0 n1 p0 p1 k0 k1 w0 w1⟩
  obtain ⟨a1, a2, a3, a4, a5, a6, a7, a8⟩ := h.1
  have tn : ∀ j, j < 124 → j ≠ 10 → tNote t p k w j = t j := fun j h1 h2 => by
    unfold tNote
    rw [if_neg h2, if_neg (by omega), if_neg (by omega), if_neg (by omega), if_neg (by omega), if_neg (by omega)]
  have cn : ∀ c j, ¬ (c = b ∧ (j = 5 ∨ j = 6)) → c ≠ b + 5 → cNote b g p k w c j = g c j := fun c j h1 h2 => cNote_ne h1 h2
  refine ⟨fun q hq => ?_, fun q hq => ?_, fun q hq => ?_, fun q hq => ?_, fun q hq => ?_, ?_, ?_, ?_⟩
  · rw [cn _ _ (by omega) (by omega), tn _ (by omega) (by omega)]; exact a1 q hq
  · rw [cn _ _ (by omega) (by omega), tn _ (by omega) (by omega)]; exact a2 q hq
  · rw [cn _ _ (by omega) (by omega), tn _ (by omega) (by omega)]; exact a3 q hq
  · rw [cn _ _ (by omega) (by omega), tn _ (by omega) (by omega)]; exact a4 q hq
  · rw [cn _ _ (by omega) (by omega), tn _ (by omega) (by omega)]; exact a5 q hq
  · rw [cn _ _ (by omega) (by omega), tn _ (by omega) (by omega)]; exact a6
  · rw [cn _ _ (by omega) (by omega), tn _ (by omega) (by omega)]; exact a7
  · rw [cn _ _ (by omega) (by omega), tn _ (by omega) (by omega)]; exact a8
/-- what holds of a row by itself: a place of no weight to it -/
theorem RIv_u {t : Nat → Int} {k : Nat} {v : Int} (h : RIv t) (hk : k ≠ 3 ∧ (k < 12 ∨ 68 ≤ k ∨ ((k - 12) % 7 ≠ 0 ∧ (k - 12) % 7 ≠ 5 ∧ (k - 12) % 7 ≠ 6))) : RIv (tU t k v) := by
  obtain ⟨a1, a2, a3⟩ := h
  refine ⟨fun p hp => ?_, fun p hp => ?_, fun p hp => ?_⟩
  · rw [tU_ne (by omega), tU_ne (by omega)]; exact a1 p hp
  · rw [tU_ne (by omega), tU_ne (by omega)]; exact a2 p hp
  · rw [tU_ne (by omega), tU_ne (by omega)]; exact a3 p hp
theorem RIv_note {t : Nat → Int} {p k w : Int} (h : RIv t) : RIv (tNote t p k w) := by
  have tn : ∀ j, j < 124 → j ≠ 10 → tNote t p k w j = t j := fun j h1 h2 => by
    unfold tNote
    rw [if_neg h2, if_neg (by omega), if_neg (by omega), if_neg (by omega), if_neg (by omega), if_neg (by omega)]
  obtain ⟨a1, a2, a3⟩ := h
  refine ⟨fun p hp => ?_, fun p hp => ?_, fun p hp => ?_⟩
  · rw [tn _ (by omega) (by omega), tn _ (by omega) (by omega)]; exact a1 p hp
  · rw [tn _ (by omega) (by omega), tn _ (by omega) (by omega)]; exact a2 p hp
  · rw [tn 3 (by omega) (by omega), tn _ (by omega) (by omega)]; exact a3 p hp
end
section
/-! fx: persons, tables: small methods of both sides -/
section FHK
variable {W : ax_W} {r : Nat} {g : Nat → Nat → Int} {Q : Nat → Nat → (Nat → Nat → Int) → Prop}
theorem sp_mof {p w : Nat} (hp : p < 8) (hw : w < 7) (kq : Q 1 (fI (g 149 (12 + 7 * p + w))) g) : fx W r 0 298 0 [1186, fI (p : Int), fI (w : Int)] [] g Q := by
  refine fx_la 0 1 (v := 1186) (by decide +kernel) rfl (by decide +kernel) ?_
  refine fx_gp 1186 148 1 1194 4 (by decide +kernel) ?_
  refine fx_ci (12) 6 (by decide +kernel) ?_
  refine fx_ci (7) 8 (by decide +kernel) ?_
  refine fx_li 1 9 (by decide +kernel) rfl ?_
  refine fx_mul 10 (by decide +kernel) rfl ?_
  refine fx_add 11 (by decide +kernel) rfl ?_
  refine fx_li 2 12 (by decide +kernel) rfl ?_
  refine fx_add 13 (by decide +kernel) rfl ?_
  refine fx_al 1194 149 764 14 (by decide +kernel) rfl (by omega) (by omega) rfl ?_
  rw [show (12 + 7 * (p : Int) + (w : Int)).toNat = 12 + 7 * p + w by omega]
  refine fx_ret (by decide +kernel) ?_
  exact kq
theorem sp_misPersonE {v : Int} (hv : fR v) (h0 : 0 ≤ g 149 3) (h1 : g 149 3 ≤ 8) (k1 : 0 ≤ v ∧ v < g 149 3 → Q 1 (fI 1) g) (k2 : ¬ (0 ≤ v ∧ v < g 149 3) → Q 1 (fI 0) g) : fx W r 1 297 0 [1186, fI v] [] g Q := by
  refine fx_li 1 1 (by decide +kernel) rfl ?_
  refine fx_ci (0) 2 (by decide +kernel) ?_
  refine fx_la 0 3 (v := 1186) (by decide +kernel) rfl (by decide +kernel) ?_
  refine fx_gp 1186 148 1 1194 6 (by decide +kernel) ?_
  refine fx_ci (3) 7 (by decide +kernel) ?_
  refine fx_al 1194 149 764 8 (by decide +kernel) rfl (by omega) (by omega) rfl ?_
  try simp only [fu_app, fcy_app, Nat.reduceEqDiff, and_true, and_false, false_and, true_and, if_true, if_false, ite_true, ite_false, reduceIte, Int.reduceToNat, fx_simp0]
  refine fx_ci (1) 9 (by decide +kernel) ?_
  refine fx_sub 10 (by decide +kernel) rfl ?_
  refine fx_c3 265 22 13 0 [] (f_q22 (by decide +kernel)) (by decide) (fI_n4 _) (fI_n4 _) (fI_n4 _) rfl (by first | decide | omega) ?_
  refine sp_isIn hv (by unfold fR; omega) (by unfold fR; omega) (fun t => fK1 ?_) (fun t => fK1 ?_)
  · refine fx_retb (by decide +kernel) (by first | exact Or.inl rfl | exact Or.inr rfl | omega) ?_
    exact k1 (by omega)
  · refine fx_retb (by decide +kernel) (by first | exact Or.inl rfl | exact Or.inr rfl | omega) ?_
    exact k2 (by omega)
theorem sp_misDead {p : Nat} (hp : p < 8) (k1 : g 149 (17 + 7 * p) = 1 → Q 1 (fI 1) g) (k2 : g 149 (17 + 7 * p) ≠ 1 → Q 1 (fI 0) g) : fx W r 1 301 0 [1186, fI (p : Int)] [] g Q := by
  refine fx_rg (fun hg => ?_)
  have rv := hgA hg 764 (c := 149) (j := 17 + 7 * p) (by decide +kernel) (by omega)
  unfold fR at rv
  refine fx_la 0 1 (v := 1186) (by decide +kernel) rfl (by decide +kernel) ?_
  refine fx_li 1 2 (by decide +kernel) rfl ?_
  refine fx_ci (5) 3 (by decide +kernel) ?_
  refine fx_c3 298 21 6 0 [] (by decide +kernel) (by decide) (by decide) (fI_n4 _) (fI_n4 _) rfl (by first | decide | omega) ?_
  refine sp_mof (w := 5) hp (by decide) (fK1 ?_)
  rw [show 12 + 7 * p + 5 = 17 + 7 * p by omega]
  refine fx_ci (1) 7 (by decide +kernel) ?_
  refine fx_ine 14 10 (by decide +kernel) (by unfold fR; omega) (by unfold fR; omega) (fun h7 => ?_) (fun h7 => ?_)
  · refine fx_ci (0) 15 (by decide +kernel) ?_
    refine fx_retb (by decide +kernel) (by first | exact Or.inl rfl | exact Or.inr rfl | omega) ?_
    exact k2 h7
  · refine fx_ci (1) 11 (by decide +kernel) ?_
    refine fx_go 15 (by decide +kernel) ?_
    refine fx_retb (by decide +kernel) (by first | exact Or.inl rfl | exact Or.inr rfl | omega) ?_
    exact k1 h7
theorem sp_misHome {p : Nat} (hp : p < 8) (k1 : g 149 (12 + 7 * p) = -1 ∧ g 149 (17 + 7 * p) ≠ 1 → Q 1 (fI 1) g) (k2 : ¬ (g 149 (12 + 7 * p) = -1 ∧ g 149 (17 + 7 * p) ≠ 1) → Q 1 (fI 0) g) : fx W r 2 308 0 [1186, fI (p : Int)] [] g Q := by
  refine fx_rg (fun hg => ?_)
  have rv := hgA hg 764 (c := 149) (j := 12 + 7 * p) (by decide +kernel) (by omega)
  unfold fR at rv
  refine fx_la 0 1 (v := 1186) (by decide +kernel) rfl (by decide +kernel) ?_
  refine fx_li 1 2 (by decide +kernel) rfl ?_
  refine fx_ci (0) 3 (by decide +kernel) ?_
  refine fx_c3 298 21 6 0 [] (by decide +kernel) (by decide) (by decide) (fI_n4 _) (fI_n4 _) rfl (by first | decide | omega) ?_
  refine sp_mof (w := 0) hp (by decide) (fK1 ?_)
  rw [show 12 + 7 * p + 0 = 12 + 7 * p from rfl]
  refine fx_ci (-1) 7 (by decide +kernel) ?_
  refine fx_ine 22 10 (by decide +kernel) (by unfold fR; omega) (by unfold fR; omega) (fun h7 => ?_) (fun h7 => ?_)
  · refine fx_ci (0) 23 (by decide +kernel) ?_
    refine fx_retb (by decide +kernel) (by first | exact Or.inl rfl | exact Or.inr rfl | omega) ?_
    exact k2 (fun t => h7 t.1)
  · refine fx_la 0 11 (v := 1186) (by decide +kernel) rfl (by decide +kernel) ?_
    refine fx_li 1 12 (by decide +kernel) rfl ?_
    refine fx_c2 301 21 15 1 [] (by decide +kernel) (by decide) (by decide) (fI_n4 _) rfl (by first | decide | omega) ?_
    refine sp_misDead hp (fun t => fK1 ?_) (fun t => fK1 ?_)
    · refine fx_zne 22 18 (by decide +kernel) (by unfold fR; omega) (fun _ => ?_) (fun hc => absurd hc (by decide))
      refine fx_ci (0) 23 (by decide +kernel) ?_
      refine fx_retb (by decide +kernel) (by first | exact Or.inl rfl | exact Or.inr rfl | omega) ?_
      exact k2 (fun u => u.2 t)
    · refine fx_zne 22 18 (by decide +kernel) (by unfold fR; omega) (fun hc => absurd hc (by decide)) (fun _ => ?_)
      refine fx_ci (1) 19 (by decide +kernel) ?_
      refine fx_go 23 (by decide +kernel) ?_
      refine fx_retb (by decide +kernel) (by first | exact Or.inl rfl | exact Or.inr rfl | omega) ?_
      exact k1 ⟨h7, t⟩
theorem sp_misAway {p : Nat} (hp : p < 8) (k1 : g 149 (12 + 7 * p) ≠ -1 ∧ g 149 (17 + 7 * p) ≠ 1 → Q 1 (fI 1) g) (k2 : ¬ (g 149 (12 + 7 * p) ≠ -1 ∧ g 149 (17 + 7 * p) ≠ 1) → Q 1 (fI 0) g) : fx W r 2 300 0 [1186, fI (p : Int)] [] g Q := by
  refine fx_rg (fun hg => ?_)
  have rv := hgA hg 764 (c := 149) (j := 12 + 7 * p) (by decide +kernel) (by omega)
  unfold fR at rv
  refine fx_la 0 1 (v := 1186) (by decide +kernel) rfl (by decide +kernel) ?_
  refine fx_li 1 2 (by decide +kernel) rfl ?_
  refine fx_ci (0) 3 (by decide +kernel) ?_
  refine fx_c3 298 21 6 0 [] (by decide +kernel) (by decide) (by decide) (fI_n4 _) (fI_n4 _) rfl (by first | decide | omega) ?_
  refine sp_mof (w := 0) hp (by decide) (fK1 ?_)
  rw [show 12 + 7 * p + 0 = 12 + 7 * p from rfl]
  refine fx_ci (-1) 7 (by decide +kernel) ?_
  refine fx_ieq 22 10 (by decide +kernel) (by unfold fR; omega) (by unfold fR; omega) (fun h7 => ?_) (fun h7 => ?_)
  · refine fx_ci (0) 23 (by decide +kernel) ?_
    refine fx_retb (by decide +kernel) (by first | exact Or.inl rfl | exact Or.inr rfl | omega) ?_
    exact k2 (fun t => t.1 h7)
  · refine fx_la 0 11 (v := 1186) (by decide +kernel) rfl (by decide +kernel) ?_
    refine fx_li 1 12 (by decide +kernel) rfl ?_
    refine fx_c2 301 21 15 1 [] (by decide +kernel) (by decide) (by decide) (fI_n4 _) rfl (by first | decide | omega) ?_
    refine sp_misDead hp (fun t => fK1 ?_) (fun t => fK1 ?_)
    · refine fx_zne 22 18 (by decide +kernel) (by unfold fR; omega) (fun _ => ?_) (fun hc => absurd hc (by decide))
      refine fx_ci (0) 23 (by decide +kernel) ?_
      refine fx_retb (by decide +kernel) (by first | exact Or.inl rfl | exact Or.inr rfl | omega) ?_
      exact k2 (fun u => u.2 t)
    · refine fx_zne 22 18 (by decide +kernel) (by unfold fR; omega) (fun hc => absurd hc (by decide)) (fun _ => ?_)
      refine fx_ci (1) 19 (by decide +kernel) ?_
      refine fx_go 23 (by decide +kernel) ?_
      refine fx_retb (by decide +kernel) (by first | exact Or.inl rfl | exact Or.inr rfl | omega) ?_
      exact k1 ⟨h7, t⟩
theorem sp_mputE {p w : Nat} {v : Int} (hp : p < 8) (hw : w < 7) (hv : fR v) (kq : Q 0 0 (frow g (tU (g 149) (12 + 7 * p + w) v))) : fx W r 0 287 0 [1186, fI (p : Int), fI (w : Int), fI v] [] g Q := by
  refine sp_put (by omega) (by omega) (by omega) (by omega) hv ?_
  rw [show (12 + 7 * (p : Int) + (w : Int)).toNat = 12 + 7 * p + w by omega, frow_fu0]
  exact kq
theorem sp_mgives {v : Int} (h0 : 0 ≤ g 149 8) (h1 : g 149 8 ≤ 9999) (v0 : -99 ≤ v) (v1 : v ≤ 99) (kq : Q 0 0 (frow g (tU (g 149) 8 (if 9999 < g 149 8 + v then 9999 else g 149 8 + v)))) : fx W r 1 320 0 [1186, fI v] [] g Q := by
  refine fx_la 0 1 (v := 1186) (by decide +kernel) rfl (by decide +kernel) ?_
  refine fx_gp 1186 148 1 1194 4 (by decide +kernel) ?_
  refine fx_ci (8) 6 (by decide +kernel) ?_
  refine fx_ci (9999) 9 (by decide +kernel) ?_
  refine fx_la 0 10 (v := 1186) (by decide +kernel) rfl (by decide +kernel) ?_
  refine fx_gp 1186 148 1 1194 13 (by decide +kernel) ?_
  refine fx_ci (8) 15 (by decide +kernel) ?_
  refine fx_al 1194 149 764 16 (by decide +kernel) rfl (by omega) (by omega) rfl ?_
  try simp only [fu_app, fcy_app, Nat.reduceEqDiff, and_true, and_false, false_and, true_and, if_true, if_false, ite_true, ite_false, reduceIte, Int.reduceToNat, fx_simp0]
  refine fx_li 1 17 (by decide +kernel) rfl ?_
  refine fx_add 18 (by decide +kernel) rfl ?_
  refine fx_c2 321 22 21 0 [] (f_q22 (by decide +kernel)) (by decide) (fI_n4 _) (fI_n4 _) rfl (by first | decide | omega) ?_
  refine sp_mlesser (by unfold fR; omega) (by unfold fR; omega) (fK1 ?_)
  refine fx_as 1194 149 764 22 (by decide +kernel) rfl (by omega) (by omega) rfl (by unfold fR; omega) ?_
  refine fx_vret (by decide +kernel) ?_
  rw [show (8 : Int).toNat = 8 from rfl, frow_fu0]
  exact kq
/-! the class -/
theorem sp_cneedPerson {v : Int} (hr : 1 ≤ r) (hv : fR v) (h0 : 0 ≤ g 3 4) (h1 : g 3 4 ≤ 8) (k1 : 0 ≤ v ∧ v < g 3 4 → Q 0 0 g) (k2 : ¬ (0 ≤ v ∧ v < g 3 4) → Q 4 0 g) : fx W r 0 123 0 [2, fI v] [] g Q := by
  unfold fR at hv
  refine fx_li 1 1 (by decide +kernel) rfl ?_
  refine fx_zlt 15 4 (by decide +kernel) (by unfold fR; omega) (fun h1 => ?_) (fun h1 => ?_)
  · refine fx_throw 2 (by decide +kernel) rfl (by omega) ?_
    exact k2 (by omega)
  · refine fx_li 1 5 (by decide +kernel) rfl ?_
    refine fx_la 0 6 (v := 2) (by decide +kernel) rfl (by decide +kernel) ?_
    refine fx_gp 2 0 1 26 9 (by decide +kernel) ?_
    refine fx_gi 26 3 4 12 (by decide +kernel) ?_
    refine fx_ilt 26 15 (by decide +kernel) (by unfold fR; omega) (by first | exact hg 3 4 (by decide) (by decide +kernel) (by decide +kernel) | (unfold fR; omega)) (fun h12 => ?_) (fun h12 => ?_)
    · refine fx_vret (by decide +kernel) ?_
      exact k1 (by omega)
    · refine fx_throw 2 (by decide +kernel) rfl (by omega) ?_
      exact k2 (by omega)
theorem sp_cneedWithin {v lo hi : Int} (hr : 1 ≤ r) (hv : fR v) (hl : fR lo) (hh : fR hi) (k1 : lo ≤ v ∧ v ≤ hi → Q 0 0 g) (k2 : ¬ (lo ≤ v ∧ v ≤ hi) → Q 2 0 g) : fx W r 0 173 0 [2, fI v, fI lo, fI hi] [] g Q := by
  unfold fR at hv hl hh
  refine fx_li 1 1 (by decide +kernel) rfl ?_
  refine fx_li 2 2 (by decide +kernel) rfl ?_
  refine fx_ilt 10 5 (by decide +kernel) (by unfold fR; omega) (by unfold fR; omega) (fun h2 => ?_) (fun h2 => ?_)
  · refine fx_throw 0 (by decide +kernel) rfl (by omega) ?_
    exact k2 (by omega)
  · refine fx_li 1 6 (by decide +kernel) rfl ?_
    refine fx_li 3 7 (by decide +kernel) rfl ?_
    refine fx_ile 21 10 (by decide +kernel) (by unfold fR; omega) (by unfold fR; omega) (fun h7 => ?_) (fun h7 => ?_)
    · refine fx_vret (by decide +kernel) ?_
      exact k1 (by omega)
    · refine fx_throw 0 (by decide +kernel) rfl (by omega) ?_
      exact k2 (by omega)
theorem sp_cisDead_table {p : Nat} (kq : Q 1 (fI (fbt (g 16 7) p)) g) : fx W r 1 44 0 [130, fI (p : Int)] [] g Q := by
  have h01 := fbt_01 (g 16 7) p
  refine fx_la 0 1 (v := 130) (by decide +kernel) rfl (by decide +kernel) ?_
  refine fx_gi 130 16 7 4 (by decide +kernel) ?_
  refine fx_li 1 5 (by decide +kernel) rfl ?_
  refine fx_c2 23 22 8 0 [] (f_q22 (by decide +kernel)) (by decide) (fI_n4 _) (fI_n4 _) rfl (by first | decide | omega) ?_
  refine sp_chas (fK1 ?_)
  refine fx_retb (by decide +kernel) (by first | exact Or.inl rfl | exact Or.inr rfl | omega) ?_
  exact kq
theorem sp_cisAway_table {p : Nat} (hp : p < 8) (k1 : g 17 p ≠ -1 ∧ fbt (g 16 7) p ≠ 1 → Q 1 (fI 1) g) (k2 : ¬ (g 17 p ≠ -1 ∧ fbt (g 16 7) p ≠ 1) → Q 1 (fI 0) g) : fx W r 1 55 0 [130, fI (p : Int)] [] g Q := by
  refine fx_rg (fun hg => ?_)
  have rv := hgA hg 8 (c := 17) (j := p) (by decide +kernel) (by omega)
  unfold fR at rv
  have h01 := fbt_01 (g 16 7) p
  refine fx_la 0 1 (v := 130) (by decide +kernel) rfl (by decide +kernel) ?_
  refine fx_gp 130 16 0 138 4 (by decide +kernel) ?_
  refine fx_li 1 5 (by decide +kernel) rfl ?_
  refine fx_al 138 17 8 6 (by decide +kernel) rfl (by omega) (by omega) rfl ?_
  rw [show ((p : Int)).toNat = p from rfl]
  refine fx_ci (-1) 7 (by decide +kernel) ?_
  refine fx_ieq 25 10 (by decide +kernel) (by unfold fR; omega) (by unfold fR; omega) (fun h7 => ?_) (fun h7 => ?_)
  · refine fx_ci (0) 26 (by decide +kernel) ?_
    refine fx_retb (by decide +kernel) (by first | exact Or.inl rfl | exact Or.inr rfl | omega) ?_
    exact k2 (fun t => t.1 h7)
  · refine fx_la 0 11 (v := 130) (by decide +kernel) rfl (by decide +kernel) ?_
    refine fx_gi 130 16 7 14 (by decide +kernel) ?_
    refine fx_li 1 15 (by decide +kernel) rfl ?_
    refine fx_c2 23 22 18 0 [] (f_q22 (by decide +kernel)) (by decide) (fI_n4 _) (fI_n4 _) rfl (by first | decide | omega) ?_
    refine sp_chas (fK1 ?_)
    refine fx_zne 25 21 (by decide +kernel) (by unfold fR; omega) (fun h18 => ?_) (fun h18 => ?_)
    · refine fx_ci (0) 26 (by decide +kernel) ?_
      refine fx_retb (by decide +kernel) (by first | exact Or.inl rfl | exact Or.inr rfl | omega) ?_
      exact k2 (fun t => t.2 (by omega))
    · refine fx_ci (1) 22 (by decide +kernel) ?_
      refine fx_go 26 (by decide +kernel) ?_
      refine fx_retb (by decide +kernel) (by first | exact Or.inl rfl | exact Or.inr rfl | omega) ?_
      exact k1 ⟨h7, by omega⟩
theorem sp_cbringHome_table {p : Nat} (hp : p < 8) (kq : Q 0 0 (fu (fu g 17 p (-1)) 20 p 0)) : fx W r 0 156 0 [130, fI (p : Int)] [] g Q := by
  refine fx_la 0 1 (v := 130) (by decide +kernel) rfl (by decide +kernel) ?_
  refine fx_gp 130 16 0 138 4 (by decide +kernel) ?_
  refine fx_li 1 5 (by decide +kernel) rfl ?_
  refine fx_ci (-1) 6 (by decide +kernel) ?_
  refine fx_as 138 17 8 7 (by decide +kernel) rfl (by omega) (by omega) rfl (by unfold fR; omega) ?_
  refine fx_la 0 8 (v := 130) (by decide +kernel) rfl (by decide +kernel) ?_
  refine fx_gp 130 16 3 162 11 (by decide +kernel) ?_
  refine fx_li 1 12 (by decide +kernel) rfl ?_
  refine fx_ci (0) 13 (by decide +kernel) ?_
  refine fx_as 162 20 8 14 (by decide +kernel) rfl (by omega) (by omega) rfl (by unfold fR; omega) ?_
  refine fx_vret (by decide +kernel) ?_
  exact kq
theorem sp_cisDead_scratch {p : Nat} (kq : Q 1 (fI (fbt (g 22 7) p)) g) : fx W r 1 44 0 [178, fI (p : Int)] [] g Q := by
  have h01 := fbt_01 (g 22 7) p
  refine fx_la 0 1 (v := 178) (by decide +kernel) rfl (by decide +kernel) ?_
  refine fx_gi 178 22 7 4 (by decide +kernel) ?_
  refine fx_li 1 5 (by decide +kernel) rfl ?_
  refine fx_c2 23 22 8 0 [] (f_q22 (by decide +kernel)) (by decide) (fI_n4 _) (fI_n4 _) rfl (by first | decide | omega) ?_
  refine sp_chas (fK1 ?_)
  refine fx_retb (by decide +kernel) (by first | exact Or.inl rfl | exact Or.inr rfl | omega) ?_
  exact kq
theorem sp_cisAway_scratch {p : Nat} (hp : p < 8) (k1 : g 23 p ≠ -1 ∧ fbt (g 22 7) p ≠ 1 → Q 1 (fI 1) g) (k2 : ¬ (g 23 p ≠ -1 ∧ fbt (g 22 7) p ≠ 1) → Q 1 (fI 0) g) : fx W r 1 55 0 [178, fI (p : Int)] [] g Q := by
  refine fx_rg (fun hg => ?_)
  have rv := hgA hg 8 (c := 23) (j := p) (by decide +kernel) (by omega)
  unfold fR at rv
  have h01 := fbt_01 (g 22 7) p
  refine fx_la 0 1 (v := 178) (by decide +kernel) rfl (by decide +kernel) ?_
  refine fx_gp 178 22 0 186 4 (by decide +kernel) ?_
  refine fx_li 1 5 (by decide +kernel) rfl ?_
  refine fx_al 186 23 8 6 (by decide +kernel) rfl (by omega) (by omega) rfl ?_
  rw [show ((p : Int)).toNat = p from rfl]
  refine fx_ci (-1) 7 (by decide +kernel) ?_
  refine fx_ieq 25 10 (by decide +kernel) (by unfold fR; omega) (by unfold fR; omega) (fun h7 => ?_) (fun h7 => ?_)
  · refine fx_ci (0) 26 (by decide +kernel) ?_
    refine fx_retb (by decide +kernel) (by first | exact Or.inl rfl | exact Or.inr rfl | omega) ?_
    exact k2 (fun t => t.1 h7)
  · refine fx_la 0 11 (v := 178) (by decide +kernel) rfl (by decide +kernel) ?_
    refine fx_gi 178 22 7 14 (by decide +kernel) ?_
    refine fx_li 1 15 (by decide +kernel) rfl ?_
    refine fx_c2 23 22 18 0 [] (f_q22 (by decide +kernel)) (by decide) (fI_n4 _) (fI_n4 _) rfl (by first | decide | omega) ?_
    refine sp_chas (fK1 ?_)
    refine fx_zne 25 21 (by decide +kernel) (by unfold fR; omega) (fun h18 => ?_) (fun h18 => ?_)
    · refine fx_ci (0) 26 (by decide +kernel) ?_
      refine fx_retb (by decide +kernel) (by first | exact Or.inl rfl | exact Or.inr rfl | omega) ?_
      exact k2 (fun t => t.2 (by omega))
    · refine fx_ci (1) 22 (by decide +kernel) ?_
      refine fx_go 26 (by decide +kernel) ?_
      refine fx_retb (by decide +kernel) (by first | exact Or.inl rfl | exact Or.inr rfl | omega) ?_
      exact k1 ⟨h7, by omega⟩
theorem sp_cbringHome_scratch {p : Nat} (hp : p < 8) (kq : Q 0 0 (fu (fu g 23 p (-1)) 26 p 0)) : fx W r 0 156 0 [178, fI (p : Int)] [] g Q := by
  refine fx_la 0 1 (v := 178) (by decide +kernel) rfl (by decide +kernel) ?_
  refine fx_gp 178 22 0 186 4 (by decide +kernel) ?_
  refine fx_li 1 5 (by decide +kernel) rfl ?_
  refine fx_ci (-1) 6 (by decide +kernel) ?_
  refine fx_as 186 23 8 7 (by decide +kernel) rfl (by omega) (by omega) rfl (by unfold fR; omega) ?_
  refine fx_la 0 8 (v := 178) (by decide +kernel) rfl (by decide +kernel) ?_
  refine fx_gp 178 22 3 210 11 (by decide +kernel) ?_
  refine fx_li 1 12 (by decide +kernel) rfl ?_
  refine fx_ci (0) 13 (by decide +kernel) ?_
  refine fx_as 210 26 8 14 (by decide +kernel) rfl (by omega) (by omega) rfl (by unfold fR; omega) ?_
  refine fx_vret (by decide +kernel) ?_
  exact kq
end FHK
end
section
/-! fx: one leaves, one comes home: the reference -/
theorem fu_row {g : Nat → Nat → Int} {c c' j : Nat} {z : Int} (h : c' ≠ c) : fu g c j z c' = g c' := by
  funext k
  exact fu_nc h
/-- what holds of the reference's row in any case -/
def mBd (g : Nat → Nat → Int) : Prop := (0 ≤ g 149 3 ∧ g 149 3 ≤ 8) ∧ (0 ≤ g 148 6 ∧ g 148 6 ≤ 12) ∧ (0 ≤ g 149 8 ∧ g 149 8 ≤ 9999) ∧ (0 ≤ g 149 10 ∧ g 149 10 ≤ 60) ∧ ∀ p : Nat, p < 8 → 0 ≤ g 149 (14 + 7 * p) ∧ g 149 (14 + 7 * p) ≤ 99
theorem mBd_th {g : Nat → Nat → Int} {z : Int} (h : mBd g) : mBd (fu g 148 0 z) := by
  unfold mBd
  rw [fu_row (by decide), fu_nj (by decide)]
  exact h
/-- iron more -/
def tIron (t : Nat → Int) (v : Int) : Nat → Int := tU t 8 (if 9999 < t 8 + v then 9999 else t 8 + v)
def tLeave (t : Nat → Int) (p : Nat) : Nat → Int := tNote (tU (tU (tIron t (-t (14 + 7 * p))) (12 + 7 * p + 0) 0) (12 + 7 * p + 6) 0) p 0 0
def tHome (t : Nat → Int) (p : Nat) : Nat → Int := tNote (tU (tU (tIron t (t (14 + 7 * p))) (12 + 7 * p + 0) (-1)) (12 + 7 * p + 6) 0) p 2 0
section FHL
variable {W : ax_W} {r : Nat} {g : Nat → Nat → Int} {Q : Nat → Nat → (Nat → Nat → Int) → Prop}
theorem sp_mgivesE {G : Nat → Nat → Int} {t : Nat → Int} {v : Int} (h0 : 0 ≤ t 8) (h1 : t 8 ≤ 9999) (v0 : -99 ≤ v) (v1 : v ≤ 99) (kq : Q 0 0 (frow G (tIron t v))) : fx W r 1 320 0 [1186, fI v] [] (frow G t) Q := by
  refine sp_mgives (by rw [frow_m]; exact h0) (by rw [frow_m]; exact h1) v0 v1 ?_
  rw [frow_mm, frow_frow]
  exact kq
theorem sp_mputF {G : Nat → Nat → Int} {t : Nat → Int} {p w : Nat} {v : Int} (hp : p < 8) (hw : w < 7) (hv : fR v) (kq : Q 0 0 (frow G (tU t (12 + 7 * p + w) v))) : fx W r 0 287 0 [1186, fI (p : Int), fI (w : Int), fI v] [] (frow G t) Q := by
  refine sp_mputE hp hw hv ?_
  rw [frow_mm, frow_frow]
  exact kq
theorem sp_mlogsF {G : Nat → Nat → Int} {t : Nat → Int} {p k w : Int} (hp : fR p) (hk : fR k) (hw : fR w) (h0 : 0 ≤ t 10) (h1 : t 10 ≤ 60) (kq : Q 0 0 (frow G (tNote t p k w))) : fx W r 1 322 0 [1186, fI p, fI k, fI w, 7] [] (frow G t) Q := by
  refine sp_mlogs hp hk hw (by rw [frow_m]; exact h0) (by rw [frow_m]; exact h1) ?_
  rw [frow_mm, frow_frow]
  exact kq
theorem tIron_b {t : Nat → Int} {v : Int} (h0 : 0 ≤ t 8) (h1 : t 8 ≤ 9999) (v0 : 0 ≤ t 8 + v) : 0 ≤ tIron t v 8 ∧ tIron t v 8 ≤ 9999 := by
  unfold tIron
  rw [tU_eq]
  split <;> omega
theorem sp_mleave {a : Int} (ha : fR a) (hb : mBd g) (k1 : ¬ (0 ≤ a ∧ a < g 149 3) → Q 1 (fI 0) (fu g 148 0 1))
    (k2 : ∀ p : Nat, a = p → (p : Int) < g 149 3 → ¬ ((g 149 (12 + 7 * p) = -1 ∧ g 149 (17 + 7 * p) ≠ 1) ∧ g 149 (14 + 7 * p) ≤ g 149 8) → Q 1 (fI 0) (fu g 148 0 2))
    (k3 : ∀ p : Nat, a = p → (p : Int) < g 149 3 → g 149 (12 + 7 * p) = -1 → g 149 (17 + 7 * p) ≠ 1 → g 149 (14 + 7 * p) ≤ g 149 8 → Q 1 (fI (tLeave (g 149) p 8)) (frow (mRem (fu g 148 0 0)) (tLeave (g 149) p))) : fx W r 3 318 0 [1186, fI a] [] g Q := by
  obtain ⟨b3, bA, b8, b10, bw⟩ := hb
  refine fx_rg (fun hg => ?_)
  refine fx_la 0 1 (v := 1186) (by decide +kernel) rfl (by decide +kernel) ?_
  refine fx_la 0 2 (v := 1186) (by decide +kernel) rfl (by decide +kernel) ?_
  refine fx_li 1 3 (by decide +kernel) rfl ?_
  refine fx_c2 297 21 6 1 [] (by decide +kernel) (by decide) (by decide) (fI_n4 _) rfl (by first | decide | omega) ?_
  refine sp_misPersonE ha b3.1 b3.2 (fun t => fK1 ?_) (fun t => fK1 ?_)
  · obtain ⟨p, rfl⟩ := Int.eq_ofNat_of_zero_le t.1
    have hp : p < 8 := by omega
    have bwp := bw p hp
    refine fx_zne 13 9 (by decide +kernel) (by unfold fR; omega) (fun _ => ?_) (fun hc => absurd hc (by decide))
    refine fx_ci (0) 14 (by decide +kernel) ?_
    refine fx_pi 1186 148 0 17 (by decide +kernel) (by unfold fR; omega) ?_
    refine fx_la 0 18 (v := 1186) (by decide +kernel) rfl (by decide +kernel) ?_
    refine fx_gi 1186 148 0 21 (by decide +kernel) ?_
    try simp only [fu_app, fcy_app, Nat.reduceEqDiff, and_true, and_false, false_and, true_and, if_true, if_false, ite_true, ite_false, reduceIte, Int.reduceToNat, fx_simp0]
    refine fx_zle 26 24 (by decide +kernel) (by unfold fR; omega) (fun h21 => ?_) (fun h21 => ?_)
    · refine fx_la 0 27 (v := 1186) (by decide +kernel) rfl (by decide +kernel) ?_
      refine fx_la 0 28 (v := 1186) (by decide +kernel) rfl (by decide +kernel) ?_
      refine fx_li 1 29 (by decide +kernel) rfl ?_
      refine fx_c2 308 21 32 2 [] (by decide +kernel) (by decide) (by decide) (fI_n4 _) rfl (by first | decide | omega) ?_
      refine sp_misHome hp (fun u => fK1 ?_) (fun u => fK1 ?_)
      all_goals rw [fu_nc (by decide), fu_nc (by decide)] at u
      · refine fx_zeq 51 35 (by decide +kernel) (by unfold fR; omega) (fun hc => absurd hc (by decide)) (fun _ => ?_)
        refine fx_la 0 36 (v := 1186) (by decide +kernel) rfl (by decide +kernel) ?_
        refine fx_gp 1186 148 1 1194 39 (by decide +kernel) ?_
        refine fx_ci (8) 41 (by decide +kernel) ?_
        refine fx_al 1194 149 764 42 (by decide +kernel) rfl (by omega) (by omega) rfl ?_
        try simp only [fu_app, fcy_app, Nat.reduceEqDiff, and_true, and_false, false_and, true_and, if_true, if_false, ite_true, ite_false, reduceIte, Int.reduceToNat, fx_simp0]
        refine fx_la 0 43 (v := 1186) (by decide +kernel) rfl (by decide +kernel) ?_
        refine fx_li 1 44 (by decide +kernel) rfl ?_
        refine fx_ci (2) 45 (by decide +kernel) ?_
        refine fx_c3 298 21 48 0 [] (by decide +kernel) (by decide) (by decide) (fI_n4 _) (fI_n4 _) rfl (by first | decide | omega) ?_
        refine sp_mof (w := 2) hp (by decide) (fK1 ?_)
        rw [fu_nc (by decide), show 12 + 7 * p + 2 = 14 + 7 * p by omega]
        refine fx_ige 55 51 (by decide +kernel) (by unfold fR; omega) (by unfold fR; omega) (fun h48 => ?_) (fun h48 => ?_)
        · refine fx_ci (0) 56 (by decide +kernel) ?_
          refine fx_pi 1186 148 0 59 (by decide +kernel) (by unfold fR; omega) ?_
          refine fx_la 0 60 (v := 1186) (by decide +kernel) rfl (by decide +kernel) ?_
          refine fx_gi 1186 148 0 63 (by decide +kernel) ?_
          try simp only [fu_app, fcy_app, Nat.reduceEqDiff, and_true, and_false, false_and, true_and, if_true, if_false, ite_true, ite_false, reduceIte, Int.reduceToNat, fx_simp0]
          refine fx_zle 68 66 (by decide +kernel) (by unfold fR; omega) (fun h63 => ?_) (fun h63 => ?_)
          · refine fx_la 0 69 (v := 1186) (by decide +kernel) rfl (by decide +kernel) ?_
            refine fx_c1 319 21 72 0 [7] (by decide +kernel) (by decide) rfl (by first | decide | omega) ?_
            rw [fu_fu]
            refine sp_mrem (by rw [fu_nj (by decide)]; exact bA.1) (by rw [fu_nj (by decide)]; exact bA.2) (fK0 ?_)
            have eG : mRem (fu g 148 0 0) = frow (mRem (fu g 148 0 0)) (g 149) := by
              have e := frow_self (mRem (fu g 148 0 0))
              rw [mRem_m, fu_row (by decide)] at e
              exact e.symm
            rw [eG]
            have k3 := k3 p rfl (by omega) u.1 u.2 (by omega)
            generalize mRem (fu g 148 0 0) = G at k3 ⊢
            refine fx_la 0 73 (v := 1186) (by decide +kernel) rfl (by decide +kernel) ?_
            refine fx_la 0 74 (v := 1186) (by decide +kernel) rfl (by decide +kernel) ?_
            refine fx_li 1 75 (by decide +kernel) rfl ?_
            refine fx_ci (2) 76 (by decide +kernel) ?_
            refine fx_c3 298 21 79 0 [] (by decide +kernel) (by decide) (by decide) (fI_n4 _) (fI_n4 _) rfl (by first | decide | omega) ?_
            refine sp_mof (w := 2) hp (by decide) (fK1 ?_)
            rw [frow_m, show 12 + 7 * p + 2 = 14 + 7 * p by omega]
            refine fx_ineg 80 (by decide +kernel) rfl ?_
            refine fx_c2 320 21 83 1 [] (by decide +kernel) (by decide) (by decide) (fI_n4 _) rfl (by first | decide | omega) ?_
            refine sp_mgivesE b8.1 b8.2 (by omega) (by omega) (fK0 ?_)
            refine fx_la 0 84 (v := 1186) (by decide +kernel) rfl (by decide +kernel) ?_
            refine fx_li 1 85 (by decide +kernel) rfl ?_
            refine fx_ci (0) 86 (by decide +kernel) ?_
            refine fx_ci (0) 87 (by decide +kernel) ?_
            refine fx_c4 287 21 90 0 [] (by decide +kernel) (by decide) (by decide) (fI_n4 _) (fI_n4 _) (fI_n4 _) rfl (by first | decide | omega) ?_
            refine sp_mputF (w := 0) hp (by decide) (by unfold fR; omega) (fK0 ?_)
            refine fx_la 0 91 (v := 1186) (by decide +kernel) rfl (by decide +kernel) ?_
            refine fx_li 1 92 (by decide +kernel) rfl ?_
            refine fx_ci (6) 94 (by decide +kernel) ?_
            refine fx_ci (0) 95 (by decide +kernel) ?_
            refine fx_c4 287 21 98 0 [] (by decide +kernel) (by decide) (by decide) (fI_n4 _) (fI_n4 _) (fI_n4 _) rfl (by first | decide | omega) ?_
            refine sp_mputF (w := 6) hp (by decide) (by unfold fR; omega) (fK0 ?_)
            refine fx_la 0 99 (v := 1186) (by decide +kernel) rfl (by decide +kernel) ?_
            refine fx_li 1 100 (by decide +kernel) rfl ?_
            refine fx_ci (0) 101 (by decide +kernel) ?_
            refine fx_ci (0) 102 (by decide +kernel) ?_
            refine fx_c4 322 21 105 1 [7] (by decide +kernel) (by decide) (by decide) (fI_n4 _) (fI_n4 _) (fI_n4 _) rfl (by first | decide | omega) ?_
            refine sp_mlogsF (by unfold fR; omega) (by unfold fR; omega) (by unfold fR; omega) (by rw [tU_ne (by omega), tU_ne (by omega)]; unfold tIron; rw [tU_ne (by decide)]; exact b10.1) (by rw [tU_ne (by omega), tU_ne (by omega)]; unfold tIron; rw [tU_ne (by decide)]; exact b10.2) (fK0 ?_)
            refine fx_la 0 106 (v := 1186) (by decide +kernel) rfl (by decide +kernel) ?_
            refine fx_gp 1186 148 1 1194 109 (by decide +kernel) ?_
            refine fx_ci (8) 111 (by decide +kernel) ?_
            refine fx_al 1194 149 764 112 (by decide +kernel) rfl (by omega) (by omega) rfl ?_
            try simp only [fu_app, fcy_app, Nat.reduceEqDiff, and_true, and_false, false_and, true_and, if_true, if_false, ite_true, ite_false, reduceIte, Int.reduceToNat, fx_simp0]
            refine fx_ret (by decide +kernel) ?_
            exact k3
          · refine fx_ci (0) 67 (by decide +kernel) ?_
            refine fx_ret (by decide +kernel) ?_
            exfalso; omega
        · refine fx_ci (2) 52 (by decide +kernel) ?_
          refine fx_go 56 (by decide +kernel) ?_
          refine fx_pi 1186 148 0 59 (by decide +kernel) (by unfold fR; omega) ?_
          refine fx_la 0 60 (v := 1186) (by decide +kernel) rfl (by decide +kernel) ?_
          refine fx_gi 1186 148 0 63 (by decide +kernel) ?_
          try simp only [fu_app, fcy_app, Nat.reduceEqDiff, and_true, and_false, false_and, true_and, if_true, if_false, ite_true, ite_false, reduceIte, Int.reduceToNat, fx_simp0]
          refine fx_zle 68 66 (by decide +kernel) (by unfold fR; omega) (fun h63 => ?_) (fun h63 => ?_)
          · exfalso; omega
          · refine fx_ci (0) 67 (by decide +kernel) ?_
            refine fx_ret (by decide +kernel) ?_
            rw [fu_fu]
            exact k2 p rfl (by omega) (fun q => by omega)
      · refine fx_zeq 51 35 (by decide +kernel) (by unfold fR; omega) (fun _ => ?_) (fun hc => absurd hc (by decide))
        refine fx_ci (2) 52 (by decide +kernel) ?_
        refine fx_go 56 (by decide +kernel) ?_
        refine fx_pi 1186 148 0 59 (by decide +kernel) (by unfold fR; omega) ?_
        refine fx_la 0 60 (v := 1186) (by decide +kernel) rfl (by decide +kernel) ?_
        refine fx_gi 1186 148 0 63 (by decide +kernel) ?_
        try simp only [fu_app, fcy_app, Nat.reduceEqDiff, and_true, and_false, false_and, true_and, if_true, if_false, ite_true, ite_false, reduceIte, Int.reduceToNat, fx_simp0]
        refine fx_zle 68 66 (by decide +kernel) (by unfold fR; omega) (fun h63 => ?_) (fun h63 => ?_)
        · exfalso; omega
        · refine fx_ci (0) 67 (by decide +kernel) ?_
          refine fx_ret (by decide +kernel) ?_
          rw [fu_fu]
          exact k2 p rfl (by omega) (fun q => u q.1)
    · refine fx_ci (0) 25 (by decide +kernel) ?_
      refine fx_ret (by decide +kernel) ?_
      exfalso; omega
  · refine fx_zne 13 9 (by decide +kernel) (by unfold fR; omega) (fun hc => absurd hc (by decide)) (fun _ => ?_)
    refine fx_ci (1) 10 (by decide +kernel) ?_
    refine fx_go 14 (by decide +kernel) ?_
    refine fx_pi 1186 148 0 17 (by decide +kernel) (by unfold fR; omega) ?_
    refine fx_la 0 18 (v := 1186) (by decide +kernel) rfl (by decide +kernel) ?_
    refine fx_gi 1186 148 0 21 (by decide +kernel) ?_
    try simp only [fu_app, fcy_app, Nat.reduceEqDiff, and_true, and_false, false_and, true_and, if_true, if_false, ite_true, ite_false, reduceIte, Int.reduceToNat, fx_simp0]
    refine fx_zle 26 24 (by decide +kernel) (by unfold fR; omega) (fun h21 => ?_) (fun h21 => ?_)
    · exfalso; omega
    · refine fx_ci (0) 25 (by decide +kernel) ?_
      refine fx_ret (by decide +kernel) ?_
      exact k1 t
end FHL
end
section
/-! fx: one comes home, is held to live, votes, promises: the reference -/
def tRise (t : Nat → Int) (p : Nat) : Nat → Int := tNote (tU (tU (tU t (12 + 7 * p + 5) 0) (12 + 7 * p + 0) (-1)) (12 + 7 * p + 6) 0) p 2 (t (12 + 7 * p))
theorem mRem_row {g : Nat → Nat → Int} {z : Int} : mRem (fu g 148 0 z) = frow (mRem (fu g 148 0 z)) (g 149) := by
  have e := frow_self (mRem (fu g 148 0 z))
  rw [mRem_m, fu_row (by decide)] at e
  exact e.symm
section FHM
variable {W : ax_W} {r : Nat} {g : Nat → Nat → Int} {Q : Nat → Nat → (Nat → Nat → Int) → Prop}
theorem sp_mhome {a : Int} (ha : fR a) (hb : mBd g) (k1 : ¬ (0 ≤ a ∧ a < g 149 3) → Q 1 (fI 0) (fu g 148 0 1))
    (k2 : ∀ p : Nat, a = p → (p : Int) < g 149 3 → ¬ ((g 149 (12 + 7 * p) ≠ -1 ∧ g 149 (17 + 7 * p) ≠ 1) ∧ g 149 (12 + 7 * p) = 0) → Q 1 (fI 0) (fu g 148 0 2))
    (k3 : ∀ p : Nat, a = p → (p : Int) < g 149 3 → g 149 (12 + 7 * p) = 0 → g 149 (17 + 7 * p) ≠ 1 → Q 1 (fI (tHome (g 149) p 8)) (frow (mRem (fu g 148 0 0)) (tHome (g 149) p))) : fx W r 3 323 0 [1186, fI a] [] g Q := by
  obtain ⟨b3, bA, b8, b10, bw⟩ := hb
  refine fx_rg (fun hg => ?_)
  refine fx_la 0 1 (v := 1186) (by decide +kernel) rfl (by decide +kernel) ?_
  refine fx_la 0 2 (v := 1186) (by decide +kernel) rfl (by decide +kernel) ?_
  refine fx_li 1 3 (by decide +kernel) rfl ?_
  refine fx_c2 297 21 6 1 [] (by decide +kernel) (by decide) (by decide) (fI_n4 _) rfl (by first | decide | omega) ?_
  refine sp_misPersonE ha b3.1 b3.2 (fun t => fK1 ?_) (fun t => fK1 ?_)
  · obtain ⟨p, rfl⟩ := Int.eq_ofNat_of_zero_le t.1
    have hp : p < 8 := by omega
    have bwp := bw p hp
    have rp := hgA hg 764 (c := 149) (j := 12 + 7 * p) (by decide +kernel) (by omega)
    unfold fR at rp
    refine fx_zne 13 9 (by decide +kernel) (by unfold fR; omega) (fun _ => ?_) (fun hc => absurd hc (by decide))
    refine fx_ci (0) 14 (by decide +kernel) ?_
    refine fx_pi 1186 148 0 17 (by decide +kernel) (by unfold fR; omega) ?_
    refine fx_la 0 18 (v := 1186) (by decide +kernel) rfl (by decide +kernel) ?_
    refine fx_gi 1186 148 0 21 (by decide +kernel) ?_
    try simp only [fu_app, fcy_app, Nat.reduceEqDiff, and_true, and_false, false_and, true_and, if_true, if_false, ite_true, ite_false, reduceIte, Int.reduceToNat, fx_simp0]
    refine fx_zle 26 24 (by decide +kernel) (by unfold fR; omega) (fun h21 => ?_) (fun h21 => ?_)
    · refine fx_la 0 27 (v := 1186) (by decide +kernel) rfl (by decide +kernel) ?_
      refine fx_la 0 28 (v := 1186) (by decide +kernel) rfl (by decide +kernel) ?_
      refine fx_li 1 29 (by decide +kernel) rfl ?_
      refine fx_c2 300 21 32 2 [] (by decide +kernel) (by decide) (by decide) (fI_n4 _) rfl (by first | decide | omega) ?_
      refine sp_misAway hp (fun u => fK1 ?_) (fun u => fK1 ?_)
      all_goals rw [fu_nc (by decide), fu_nc (by decide)] at u
      · refine fx_zeq 44 35 (by decide +kernel) (by unfold fR; omega) (fun hc => absurd hc (by decide)) (fun _ => ?_)
        refine fx_la 0 36 (v := 1186) (by decide +kernel) rfl (by decide +kernel) ?_
        refine fx_li 1 37 (by decide +kernel) rfl ?_
        refine fx_ci (0) 38 (by decide +kernel) ?_
        refine fx_c3 298 21 41 0 [] (by decide +kernel) (by decide) (by decide) (fI_n4 _) (fI_n4 _) rfl (by first | decide | omega) ?_
        refine sp_mof (w := 0) hp (by decide) (fK1 ?_)
        rw [fu_nc (by decide), show 12 + 7 * p + 0 = 12 + 7 * p from rfl]
        refine fx_zeq 48 44 (by decide +kernel) (by unfold fR; omega) (fun h41 => ?_) (fun h41 => ?_)
        · refine fx_ci (0) 49 (by decide +kernel) ?_
          refine fx_pi 1186 148 0 52 (by decide +kernel) (by unfold fR; omega) ?_
          refine fx_la 0 53 (v := 1186) (by decide +kernel) rfl (by decide +kernel) ?_
          refine fx_gi 1186 148 0 56 (by decide +kernel) ?_
          try simp only [fu_app, fcy_app, Nat.reduceEqDiff, and_true, and_false, false_and, true_and, if_true, if_false, ite_true, ite_false, reduceIte, Int.reduceToNat, fx_simp0]
          refine fx_zle 61 59 (by decide +kernel) (by unfold fR; omega) (fun h56 => ?_) (fun h56 => ?_)
          · refine fx_la 0 62 (v := 1186) (by decide +kernel) rfl (by decide +kernel) ?_
            refine fx_c1 319 21 65 0 [7] (by decide +kernel) (by decide) rfl (by first | decide | omega) ?_
            rw [fu_fu]
            refine sp_mrem (by rw [fu_nj (by decide)]; exact bA.1) (by rw [fu_nj (by decide)]; exact bA.2) (fK0 ?_)
            rw [mRem_row]
            have k3 := k3 p rfl (by omega) h41 u.2
            generalize mRem (fu g 148 0 0) = G at k3 ⊢
            refine fx_la 0 66 (v := 1186) (by decide +kernel) rfl (by decide +kernel) ?_
            refine fx_la 0 67 (v := 1186) (by decide +kernel) rfl (by decide +kernel) ?_
            refine fx_li 1 68 (by decide +kernel) rfl ?_
            refine fx_ci (2) 69 (by decide +kernel) ?_
            refine fx_c3 298 21 72 0 [] (by decide +kernel) (by decide) (by decide) (fI_n4 _) (fI_n4 _) rfl (by first | decide | omega) ?_
            refine sp_mof (w := 2) hp (by decide) (fK1 ?_)
            rw [frow_m, show 12 + 7 * p + 2 = 14 + 7 * p by omega]
            refine fx_c2 320 21 75 1 [] (by decide +kernel) (by decide) (by decide) (fI_n4 _) rfl (by first | decide | omega) ?_
            refine sp_mgivesE b8.1 b8.2 (by omega) (by omega) (fK0 ?_)
            refine fx_la 0 76 (v := 1186) (by decide +kernel) rfl (by decide +kernel) ?_
            refine fx_li 1 77 (by decide +kernel) rfl ?_
            refine fx_ci (0) 78 (by decide +kernel) ?_
            refine fx_ci (-1) 79 (by decide +kernel) ?_
            refine fx_c4 287 21 82 0 [] (by decide +kernel) (by decide) (by decide) (fI_n4 _) (fI_n4 _) (fI_n4 _) rfl (by first | decide | omega) ?_
            refine sp_mputF (w := 0) hp (by decide) (by unfold fR; omega) (fK0 ?_)
            refine fx_la 0 83 (v := 1186) (by decide +kernel) rfl (by decide +kernel) ?_
            refine fx_li 1 84 (by decide +kernel) rfl ?_
            refine fx_ci (6) 86 (by decide +kernel) ?_
            refine fx_ci (0) 87 (by decide +kernel) ?_
            refine fx_c4 287 21 90 0 [] (by decide +kernel) (by decide) (by decide) (fI_n4 _) (fI_n4 _) (fI_n4 _) rfl (by first | decide | omega) ?_
            refine sp_mputF (w := 6) hp (by decide) (by unfold fR; omega) (fK0 ?_)
            refine fx_la 0 91 (v := 1186) (by decide +kernel) rfl (by decide +kernel) ?_
            refine fx_li 1 92 (by decide +kernel) rfl ?_
            refine fx_ci (2) 93 (by decide +kernel) ?_
            refine fx_ci (0) 94 (by decide +kernel) ?_
            refine fx_c4 322 21 97 1 [7] (by decide +kernel) (by decide) (by decide) (fI_n4 _) (fI_n4 _) (fI_n4 _) rfl (by first | decide | omega) ?_
            refine sp_mlogsF (by unfold fR; omega) (by unfold fR; omega) (by unfold fR; omega) (by rw [tU_ne (by omega), tU_ne (by omega)]; unfold tIron; rw [tU_ne (by decide)]; exact b10.1) (by rw [tU_ne (by omega), tU_ne (by omega)]; unfold tIron; rw [tU_ne (by decide)]; exact b10.2) (fK0 ?_)
            refine fx_la 0 98 (v := 1186) (by decide +kernel) rfl (by decide +kernel) ?_
            refine fx_gp 1186 148 1 1194 101 (by decide +kernel) ?_
            refine fx_ci (8) 103 (by decide +kernel) ?_
            refine fx_al 1194 149 764 104 (by decide +kernel) rfl (by omega) (by omega) rfl ?_
            try simp only [fu_app, fcy_app, Nat.reduceEqDiff, and_true, and_false, false_and, true_and, if_true, if_false, ite_true, ite_false, reduceIte, Int.reduceToNat, fx_simp0]
            refine fx_ret (by decide +kernel) ?_
            exact k3
          · refine fx_ci (0) 60 (by decide +kernel) ?_
            refine fx_ret (by decide +kernel) ?_
            exfalso; omega
        · refine fx_ci (2) 45 (by decide +kernel) ?_
          refine fx_go 49 (by decide +kernel) ?_
          refine fx_pi 1186 148 0 52 (by decide +kernel) (by unfold fR; omega) ?_
          refine fx_la 0 53 (v := 1186) (by decide +kernel) rfl (by decide +kernel) ?_
          refine fx_gi 1186 148 0 56 (by decide +kernel) ?_
          try simp only [fu_app, fcy_app, Nat.reduceEqDiff, and_true, and_false, false_and, true_and, if_true, if_false, ite_true, ite_false, reduceIte, Int.reduceToNat, fx_simp0]
          refine fx_zle 61 59 (by decide +kernel) (by unfold fR; omega) (fun h56 => ?_) (fun h56 => ?_)
          · exfalso; omega
          · refine fx_ci (0) 60 (by decide +kernel) ?_
            refine fx_ret (by decide +kernel) ?_
            rw [fu_fu]
            exact k2 p rfl (by omega) (fun q => h41 q.2)
      · refine fx_zeq 44 35 (by decide +kernel) (by unfold fR; omega) (fun _ => ?_) (fun hc => absurd hc (by decide))
        refine fx_ci (2) 45 (by decide +kernel) ?_
        refine fx_go 49 (by decide +kernel) ?_
        refine fx_pi 1186 148 0 52 (by decide +kernel) (by unfold fR; omega) ?_
        refine fx_la 0 53 (v := 1186) (by decide +kernel) rfl (by decide +kernel) ?_
        refine fx_gi 1186 148 0 56 (by decide +kernel) ?_
        try simp only [fu_app, fcy_app, Nat.reduceEqDiff, and_true, and_false, false_and, true_and, if_true, if_false, ite_true, ite_false, reduceIte, Int.reduceToNat, fx_simp0]
        refine fx_zle 61 59 (by decide +kernel) (by unfold fR; omega) (fun h56 => ?_) (fun h56 => ?_)
        · exfalso; omega
        · refine fx_ci (0) 60 (by decide +kernel) ?_
          refine fx_ret (by decide +kernel) ?_
          rw [fu_fu]
          exact k2 p rfl (by omega) (fun q => u q.1)
    · refine fx_ci (0) 25 (by decide +kernel) ?_
      refine fx_ret (by decide +kernel) ?_
      exfalso; omega
  · refine fx_zne 13 9 (by decide +kernel) (by unfold fR; omega) (fun hc => absurd hc (by decide)) (fun _ => ?_)
    refine fx_ci (1) 10 (by decide +kernel) ?_
    refine fx_go 14 (by decide +kernel) ?_
    refine fx_pi 1186 148 0 17 (by decide +kernel) (by unfold fR; omega) ?_
    refine fx_la 0 18 (v := 1186) (by decide +kernel) rfl (by decide +kernel) ?_
    refine fx_gi 1186 148 0 21 (by decide +kernel) ?_
    try simp only [fu_app, fcy_app, Nat.reduceEqDiff, and_true, and_false, false_and, true_and, if_true, if_false, ite_true, ite_false, reduceIte, Int.reduceToNat, fx_simp0]
    refine fx_zle 26 24 (by decide +kernel) (by unfold fR; omega) (fun h21 => ?_) (fun h21 => ?_)
    · exfalso; omega
    · refine fx_ci (0) 25 (by decide +kernel) ?_
      refine fx_ret (by decide +kernel) ?_
      exact k1 t
theorem sp_mrise {a : Int} (ha : fR a) (hb : mBd g) (k1 : ¬ (0 ≤ a ∧ a < g 149 3) → Q 1 (fI 0) (fu g 148 0 1))
    (k2 : ∀ p : Nat, a = p → (p : Int) < g 149 3 → g 149 (17 + 7 * p) ≠ 1 → Q 1 (fI 0) (fu g 148 0 2))
    (k3 : ∀ p : Nat, a = p → (p : Int) < g 149 3 → g 149 (17 + 7 * p) = 1 → Q 1 (fI (g 149 (12 + 7 * p))) (frow (mRem (fu g 148 0 0)) (tRise (g 149) p))) : fx W r 2 332 0 [1186, fI a, 7] [] g Q := by
  obtain ⟨b3, bA, b8, b10, bw⟩ := hb
  refine fx_rg (fun hg => ?_)
  refine fx_la 0 1 (v := 1186) (by decide +kernel) rfl (by decide +kernel) ?_
  refine fx_la 0 2 (v := 1186) (by decide +kernel) rfl (by decide +kernel) ?_
  refine fx_li 1 3 (by decide +kernel) rfl ?_
  refine fx_c2 297 21 6 1 [] (by decide +kernel) (by decide) (by decide) (fI_n4 _) rfl (by first | decide | omega) ?_
  refine sp_misPersonE ha b3.1 b3.2 (fun t => fK1 ?_) (fun t => fK1 ?_)
  · obtain ⟨p, rfl⟩ := Int.eq_ofNat_of_zero_le t.1
    have hp : p < 8 := by omega
    have rp := hgA hg 764 (c := 149) (j := 12 + 7 * p) (by decide +kernel) (by omega)
    have rp2 := rp
    unfold fR at rp
    refine fx_zne 13 9 (by decide +kernel) (by unfold fR; omega) (fun _ => ?_) (fun hc => absurd hc (by decide))
    refine fx_ci (0) 14 (by decide +kernel) ?_
    refine fx_pi 1186 148 0 17 (by decide +kernel) (by unfold fR; omega) ?_
    refine fx_la 0 18 (v := 1186) (by decide +kernel) rfl (by decide +kernel) ?_
    refine fx_gi 1186 148 0 21 (by decide +kernel) ?_
    try simp only [fu_app, fcy_app, Nat.reduceEqDiff, and_true, and_false, false_and, true_and, if_true, if_false, ite_true, ite_false, reduceIte, Int.reduceToNat, fx_simp0]
    refine fx_zle 26 24 (by decide +kernel) (by unfold fR; omega) (fun h21 => ?_) (fun h21 => ?_)
    · refine fx_la 0 27 (v := 1186) (by decide +kernel) rfl (by decide +kernel) ?_
      refine fx_la 0 28 (v := 1186) (by decide +kernel) rfl (by decide +kernel) ?_
      refine fx_li 1 29 (by decide +kernel) rfl ?_
      refine fx_c2 301 21 32 1 [] (by decide +kernel) (by decide) (by decide) (fI_n4 _) rfl (by first | decide | omega) ?_
      refine sp_misDead hp (fun u => fK1 ?_) (fun u => fK1 ?_)
      all_goals rw [fu_nc (by decide)] at u
      · refine fx_zne 39 35 (by decide +kernel) (by unfold fR; omega) (fun _ => ?_) (fun hc => absurd hc (by decide))
        refine fx_ci (0) 40 (by decide +kernel) ?_
        refine fx_pi 1186 148 0 43 (by decide +kernel) (by unfold fR; omega) ?_
        refine fx_la 0 44 (v := 1186) (by decide +kernel) rfl (by decide +kernel) ?_
        refine fx_gi 1186 148 0 47 (by decide +kernel) ?_
        try simp only [fu_app, fcy_app, Nat.reduceEqDiff, and_true, and_false, false_and, true_and, if_true, if_false, ite_true, ite_false, reduceIte, Int.reduceToNat, fx_simp0]
        refine fx_zle 52 50 (by decide +kernel) (by unfold fR; omega) (fun h47 => ?_) (fun h47 => ?_)
        · refine fx_la 0 53 (v := 1186) (by decide +kernel) rfl (by decide +kernel) ?_
          refine fx_c1 319 21 56 0 [7] (by decide +kernel) (by decide) rfl (by first | decide | omega) ?_
          rw [fu_fu]
          refine sp_mrem (by rw [fu_nj (by decide)]; exact bA.1) (by rw [fu_nj (by decide)]; exact bA.2) (fK0 ?_)
          rw [mRem_row]
          have k3 := k3 p rfl (by omega) u
          generalize mRem (fu g 148 0 0) = G at k3 ⊢
          refine fx_la 0 57 (v := 1186) (by decide +kernel) rfl (by decide +kernel) ?_
          refine fx_li 1 58 (by decide +kernel) rfl ?_
          refine fx_ci (0) 59 (by decide +kernel) ?_
          refine fx_c3 298 21 62 0 [] (by decide +kernel) (by decide) (by decide) (fI_n4 _) (fI_n4 _) rfl (by first | decide | omega) ?_
          refine sp_mof (w := 0) hp (by decide) (fK1 ?_)
          rw [frow_m, show 12 + 7 * p + 0 = 12 + 7 * p from rfl]
          refine fx_si 2 63 (by decide +kernel) (Or.inr (fI_n4 _)) rfl ?_
          dsimp only [List.set]
          refine fx_la 0 64 (v := 1186) (by decide +kernel) rfl (by decide +kernel) ?_
          refine fx_li 1 65 (by decide +kernel) rfl ?_
          refine fx_ci (5) 66 (by decide +kernel) ?_
          refine fx_ci (0) 67 (by decide +kernel) ?_
          refine fx_c4 287 21 70 0 [] (by decide +kernel) (by decide) (by decide) (fI_n4 _) (fI_n4 _) (fI_n4 _) rfl (by first | decide | omega) ?_
          refine sp_mputF (w := 5) hp (by decide) (by unfold fR; omega) (fK0 ?_)
          refine fx_la 0 71 (v := 1186) (by decide +kernel) rfl (by decide +kernel) ?_
          refine fx_li 1 72 (by decide +kernel) rfl ?_
          refine fx_ci (0) 73 (by decide +kernel) ?_
          refine fx_ci (-1) 74 (by decide +kernel) ?_
          refine fx_c4 287 21 77 0 [] (by decide +kernel) (by decide) (by decide) (fI_n4 _) (fI_n4 _) (fI_n4 _) rfl (by first | decide | omega) ?_
          refine sp_mputF (w := 0) hp (by decide) (by unfold fR; omega) (fK0 ?_)
          refine fx_la 0 78 (v := 1186) (by decide +kernel) rfl (by decide +kernel) ?_
          refine fx_li 1 79 (by decide +kernel) rfl ?_
          refine fx_ci (6) 81 (by decide +kernel) ?_
          refine fx_ci (0) 82 (by decide +kernel) ?_
          refine fx_c4 287 21 85 0 [] (by decide +kernel) (by decide) (by decide) (fI_n4 _) (fI_n4 _) (fI_n4 _) rfl (by first | decide | omega) ?_
          refine sp_mputF (w := 6) hp (by decide) (by unfold fR; omega) (fK0 ?_)
          refine fx_la 0 86 (v := 1186) (by decide +kernel) rfl (by decide +kernel) ?_
          refine fx_li 1 87 (by decide +kernel) rfl ?_
          refine fx_ci (2) 88 (by decide +kernel) ?_
          refine fx_li 2 89 (by decide +kernel) rfl ?_
          refine fx_c4 322 21 92 1 [7] (by decide +kernel) (by decide) (by decide) (fI_n4 _) (fI_n4 _) (fI_n4 _) rfl (by first | decide | omega) ?_
          refine sp_mlogsF (by unfold fR; omega) (by unfold fR; omega) rp2 (by rw [tU_ne (by omega), tU_ne (by omega), tU_ne (by omega)]; exact b10.1) (by rw [tU_ne (by omega), tU_ne (by omega), tU_ne (by omega)]; exact b10.2) (fK0 ?_)
          refine fx_li 2 93 (by decide +kernel) rfl ?_
          refine fx_ret (by decide +kernel) ?_
          exact k3
        · refine fx_ci (0) 51 (by decide +kernel) ?_
          refine fx_ret (by decide +kernel) ?_
          exfalso; omega
      · refine fx_zne 39 35 (by decide +kernel) (by unfold fR; omega) (fun hc => absurd hc (by decide)) (fun _ => ?_)
        refine fx_ci (2) 36 (by decide +kernel) ?_
        refine fx_go 40 (by decide +kernel) ?_
        refine fx_pi 1186 148 0 43 (by decide +kernel) (by unfold fR; omega) ?_
        refine fx_la 0 44 (v := 1186) (by decide +kernel) rfl (by decide +kernel) ?_
        refine fx_gi 1186 148 0 47 (by decide +kernel) ?_
        try simp only [fu_app, fcy_app, Nat.reduceEqDiff, and_true, and_false, false_and, true_and, if_true, if_false, ite_true, ite_false, reduceIte, Int.reduceToNat, fx_simp0]
        refine fx_zle 52 50 (by decide +kernel) (by unfold fR; omega) (fun h47 => ?_) (fun h47 => ?_)
        · exfalso; omega
        · refine fx_ci (0) 51 (by decide +kernel) ?_
          refine fx_ret (by decide +kernel) ?_
          rw [fu_fu]
          exact k2 p rfl (by omega) u
    · refine fx_ci (0) 25 (by decide +kernel) ?_
      refine fx_ret (by decide +kernel) ?_
      exfalso; omega
  · refine fx_zne 13 9 (by decide +kernel) (by unfold fR; omega) (fun hc => absurd hc (by decide)) (fun _ => ?_)
    refine fx_ci (1) 10 (by decide +kernel) ?_
    refine fx_go 14 (by decide +kernel) ?_
    refine fx_pi 1186 148 0 17 (by decide +kernel) (by unfold fR; omega) ?_
    refine fx_la 0 18 (v := 1186) (by decide +kernel) rfl (by decide +kernel) ?_
    refine fx_gi 1186 148 0 21 (by decide +kernel) ?_
    try simp only [fu_app, fcy_app, Nat.reduceEqDiff, and_true, and_false, false_and, true_and, if_true, if_false, ite_true, ite_false, reduceIte, Int.reduceToNat, fx_simp0]
    refine fx_zle 26 24 (by decide +kernel) (by unfold fR; omega) (fun h21 => ?_) (fun h21 => ?_)
    · exfalso; omega
    · refine fx_ci (0) 25 (by decide +kernel) ?_
      refine fx_ret (by decide +kernel) ?_
      exact k1 t
theorem sp_msets {p w : Nat} {v : Int} (hp : p < 8) (hw : w < 7) (hv : fR v) (a0 : 0 ≤ g 148 6) (a1 : g 148 6 ≤ 12) (kq : Q 1 (fI (g 149 (12 + 7 * p + w))) (frow (mRem g) (tU (g 149) (12 + 7 * p + w) v))) : fx W r 1 334 0 [1186, fI (p : Int), fI (w : Int), fI v, 7] [] g Q := by
  refine fx_rg (fun hg => ?_)
  have rp := hgA hg 764 (c := 149) (j := 12 + 7 * p + w) (by decide +kernel) (by omega)
  unfold fR at rp
  refine fx_la 0 1 (v := 1186) (by decide +kernel) rfl (by decide +kernel) ?_
  refine fx_c1 319 21 4 0 [7] (by decide +kernel) (by decide) rfl (by first | decide | omega) ?_
  refine sp_mrem a0 a1 (fK0 ?_)
  have e := frow_self (mRem g)
  rw [mRem_m] at e
  rw [← e]
  generalize mRem g = G at kq ⊢
  refine fx_la 0 5 (v := 1186) (by decide +kernel) rfl (by decide +kernel) ?_
  refine fx_li 1 6 (by decide +kernel) rfl ?_
  refine fx_li 2 7 (by decide +kernel) rfl ?_
  refine fx_c3 298 21 10 0 [] (by decide +kernel) (by decide) (by decide) (fI_n4 _) (fI_n4 _) rfl (by first | decide | omega) ?_
  refine sp_mof hp hw (fK1 ?_)
  rw [frow_m]
  refine fx_si 4 12 (by decide +kernel) (Or.inr (fI_n4 _)) rfl ?_
  dsimp only [List.set]
  refine fx_la 0 13 (v := 1186) (by decide +kernel) rfl (by decide +kernel) ?_
  refine fx_li 1 14 (by decide +kernel) rfl ?_
  refine fx_li 2 15 (by decide +kernel) rfl ?_
  refine fx_li 3 16 (by decide +kernel) rfl ?_
  refine fx_c4 287 21 19 0 [] (by decide +kernel) (by decide) (by decide) (fI_n4 _) (fI_n4 _) (fI_n4 _) rfl (by first | decide | omega) ?_
  refine sp_mputF hp hw hv (fK0 ?_)
  refine fx_li 4 21 (by decide +kernel) rfl ?_
  refine fx_ret (by decide +kernel) ?_
  exact kq
theorem sp_mvote {a b : Int} (ha : fR a) (hbr : fR b) (hb : mBd g) (k1 : ¬ (0 ≤ a ∧ a < g 149 3) → Q 1 (fI 0) (fu g 148 0 1))
    (k2 : 0 ≤ a ∧ a < g 149 3 → ¬ (0 ≤ b ∧ b ≤ 20) → Q 1 (fI 0) (fu g 148 0 2))
    (k3 : ∀ p : Nat, a = p → (p : Int) < g 149 3 → 0 ≤ b → b ≤ 20 → Q 1 (fI (g 149 (13 + 7 * p))) (frow (mRem (fu g 148 0 0)) (tU (g 149) (12 + 7 * p + 1) b))) : fx W r 2 333 0 [1186, fI a, fI b] [] g Q := by
  obtain ⟨b3, bA, b8, b10, bw⟩ := hb
  refine fx_la 0 1 (v := 1186) (by decide +kernel) rfl (by decide +kernel) ?_
  refine fx_la 0 2 (v := 1186) (by decide +kernel) rfl (by decide +kernel) ?_
  refine fx_li 1 3 (by decide +kernel) rfl ?_
  refine fx_c2 297 21 6 1 [] (by decide +kernel) (by decide) (by decide) (fI_n4 _) rfl (by first | decide | omega) ?_
  refine sp_misPersonE ha b3.1 b3.2 (fun t => fK1 ?_) (fun t => fK1 ?_)
  · refine fx_zne 13 9 (by decide +kernel) (by unfold fR; omega) (fun _ => ?_) (fun hc => absurd hc (by decide))
    refine fx_li 2 14 (by decide +kernel) rfl ?_
    refine fx_ci (0) 15 (by decide +kernel) ?_
    refine fx_ci (20) 17 (by decide +kernel) ?_
    refine fx_c3 265 22 20 0 [] (f_q22 (by decide +kernel)) (by decide) (fI_n4 _) (fI_n4 _) (fI_n4 _) rfl (by first | decide | omega) ?_
    refine sp_isIn hbr (by unfold fR; omega) (by unfold fR; omega) (fun u => fK1 ?_) (fun u => fK1 ?_)
    · refine fx_zne 27 23 (by decide +kernel) (by unfold fR; omega) (fun _ => ?_) (fun hc => absurd hc (by decide))
      refine fx_ci (0) 28 (by decide +kernel) ?_
      refine fx_pi 1186 148 0 31 (by decide +kernel) (by unfold fR; omega) ?_
      refine fx_la 0 32 (v := 1186) (by decide +kernel) rfl (by decide +kernel) ?_
      refine fx_gi 1186 148 0 35 (by decide +kernel) ?_
      try simp only [fu_app, fcy_app, Nat.reduceEqDiff, and_true, and_false, false_and, true_and, if_true, if_false, ite_true, ite_false, reduceIte, Int.reduceToNat, fx_simp0]
      refine fx_zle 42 38 (by decide +kernel) (by unfold fR; omega) (fun h35 => ?_) (fun h35 => ?_)
      · refine fx_la 0 43 (v := 1186) (by decide +kernel) rfl (by decide +kernel) ?_
        refine fx_li 1 44 (by decide +kernel) rfl ?_
        refine fx_ci (1) 45 (by decide +kernel) ?_
        refine fx_li 2 46 (by decide +kernel) rfl ?_
        refine fx_c4 334 21 49 1 [7] (by decide +kernel) (by decide) (by decide) (fI_n4 _) (fI_n4 _) (fI_n4 _) rfl (by first | decide | omega) ?_
        obtain ⟨p, rfl⟩ := Int.eq_ofNat_of_zero_le t.1
        have hp : p < 8 := by omega
        refine sp_msets (w := 1) hp (by decide) hbr (by rw [fu_nj (by decide)]; exact bA.1) (by rw [fu_nj (by decide)]; exact bA.2) (fK1 ?_)
        rw [fu_row (by decide), show 12 + 7 * p + 1 = 13 + 7 * p by omega]
        have k3 := k3 p rfl (by omega) u.1 u.2
        rw [show 12 + 7 * p + 1 = 13 + 7 * p by omega] at k3
        refine fx_ret (by decide +kernel) ?_
        exact k3
      · refine fx_ci (0) 39 (by decide +kernel) ?_
        refine fx_go 49 (by decide +kernel) ?_
        refine fx_ret (by decide +kernel) ?_
        exfalso; omega
    · refine fx_zne 27 23 (by decide +kernel) (by unfold fR; omega) (fun hc => absurd hc (by decide)) (fun _ => ?_)
      refine fx_ci (2) 24 (by decide +kernel) ?_
      refine fx_go 28 (by decide +kernel) ?_
      refine fx_pi 1186 148 0 31 (by decide +kernel) (by unfold fR; omega) ?_
      refine fx_la 0 32 (v := 1186) (by decide +kernel) rfl (by decide +kernel) ?_
      refine fx_gi 1186 148 0 35 (by decide +kernel) ?_
      try simp only [fu_app, fcy_app, Nat.reduceEqDiff, and_true, and_false, false_and, true_and, if_true, if_false, ite_true, ite_false, reduceIte, Int.reduceToNat, fx_simp0]
      refine fx_zle 42 38 (by decide +kernel) (by unfold fR; omega) (fun h35 => ?_) (fun h35 => ?_)
      · refine fx_la 0 43 (v := 1186) (by decide +kernel) rfl (by decide +kernel) ?_
        refine fx_li 1 44 (by decide +kernel) rfl ?_
        refine fx_ci (1) 45 (by decide +kernel) ?_
        refine fx_li 2 46 (by decide +kernel) rfl ?_
        refine fx_c4 334 21 49 1 [7] (by decide +kernel) (by decide) (by decide) (fI_n4 _) (fI_n4 _) (fI_n4 _) rfl (by first | decide | omega) ?_
        exfalso; omega
      · refine fx_ci (0) 39 (by decide +kernel) ?_
        refine fx_go 49 (by decide +kernel) ?_
        refine fx_ret (by decide +kernel) ?_
        exact k2 t u
  · refine fx_zne 13 9 (by decide +kernel) (by unfold fR; omega) (fun hc => absurd hc (by decide)) (fun _ => ?_)
    refine fx_ci (1) 10 (by decide +kernel) ?_
    refine fx_go 28 (by decide +kernel) ?_
    refine fx_pi 1186 148 0 31 (by decide +kernel) (by unfold fR; omega) ?_
    refine fx_la 0 32 (v := 1186) (by decide +kernel) rfl (by decide +kernel) ?_
    refine fx_gi 1186 148 0 35 (by decide +kernel) ?_
    try simp only [fu_app, fcy_app, Nat.reduceEqDiff, and_true, and_false, false_and, true_and, if_true, if_false, ite_true, ite_false, reduceIte, Int.reduceToNat, fx_simp0]
    refine fx_zle 42 38 (by decide +kernel) (by unfold fR; omega) (fun h35 => ?_) (fun h35 => ?_)
    · refine fx_la 0 43 (v := 1186) (by decide +kernel) rfl (by decide +kernel) ?_
      refine fx_li 1 44 (by decide +kernel) rfl ?_
      refine fx_ci (1) 45 (by decide +kernel) ?_
      refine fx_li 2 46 (by decide +kernel) rfl ?_
      refine fx_c4 334 21 49 1 [7] (by decide +kernel) (by decide) (by decide) (fI_n4 _) (fI_n4 _) (fI_n4 _) rfl (by first | decide | omega) ?_
      exfalso; omega
    · refine fx_ci (0) 39 (by decide +kernel) ?_
      refine fx_go 49 (by decide +kernel) ?_
      refine fx_ret (by decide +kernel) ?_
      exact k1 t
theorem sp_mpromise {a b : Int} (ha : fR a) (hbr : fR b) (hb : mBd g) (k1 : ¬ ((0 ≤ a ∧ a < g 149 3) ∧ (b = -1 ∨ (0 ≤ b ∧ b < g 149 3))) → Q 1 (fI 0) (fu g 148 0 1))
    (k2 : 0 ≤ a ∧ a < g 149 3 → a = b → Q 1 (fI 0) (fu g 148 0 2))
    (k3 : ∀ p : Nat, a = p → (p : Int) < g 149 3 → (b = -1 ∨ (0 ≤ b ∧ b < g 149 3)) → a ≠ b → Q 1 (fI (g 149 (16 + 7 * p))) (frow (mRem (fu g 148 0 0)) (tU (g 149) (12 + 7 * p + 4) b))) : fx W r 2 335 0 [1186, fI a, fI b] [] g Q := by
  obtain ⟨b3, bA, b8, b10, bw⟩ := hb
  have hbr2 := hbr
  have ha2 := ha
  unfold fR at hbr2 ha2
  have fin : ∀ (p : Nat), a = p → (p : Int) < g 149 3 → (b = -1 ∨ (0 ≤ b ∧ b < g 149 3)) → a ≠ b → fx W r 2 335 36 [1186, fI a, fI b] [fI 0, 1186] g Q := fun p e hp hq hn => by
    subst e
    refine fx_pi 1186 148 0 39 (by decide +kernel) (by unfold fR; omega) ?_
    refine fx_la 0 40 (v := 1186) (by decide +kernel) rfl (by decide +kernel) ?_
    refine fx_gi 1186 148 0 43 (by decide +kernel) ?_
    try simp only [fu_app, fcy_app, Nat.reduceEqDiff, and_true, and_false, false_and, true_and, if_true, if_false, ite_true, ite_false, reduceIte, Int.reduceToNat, fx_simp0]
    refine fx_zle 50 46 (by decide +kernel) (by unfold fR; omega) (fun h43 => ?_) (fun h43 => ?_)
    · refine fx_la 0 51 (v := 1186) (by decide +kernel) rfl (by decide +kernel) ?_
      refine fx_li 1 52 (by decide +kernel) rfl ?_
      refine fx_ci (4) 53 (by decide +kernel) ?_
      refine fx_li 2 54 (by decide +kernel) rfl ?_
      refine fx_c4 334 21 57 1 [7] (by decide +kernel) (by decide) (by decide) (fI_n4 _) (fI_n4 _) (fI_n4 _) rfl (by first | decide | omega) ?_
      refine sp_msets (w := 4) (by omega) (by decide) hbr (by rw [fu_nj (by decide)]; exact bA.1) (by rw [fu_nj (by decide)]; exact bA.2) (fK1 ?_)
      rw [fu_row (by decide), show 12 + 7 * p + 4 = 16 + 7 * p by omega]
      have k3 := k3 p rfl hp hq hn
      rw [show 12 + 7 * p + 4 = 16 + 7 * p by omega] at k3
      refine fx_ret (by decide +kernel) ?_
      exact k3
    · refine fx_ci (0) 47 (by decide +kernel) ?_
      refine fx_go 57 (by decide +kernel) ?_
      refine fx_ret (by decide +kernel) ?_
      exfalso; omega
  have bad : ¬ ((0 ≤ a ∧ a < g 149 3) ∧ (b = -1 ∨ (0 ≤ b ∧ b < g 149 3))) → fx W r 2 335 36 [1186, fI a, fI b] [fI 1, 1186] g Q := fun hn => by
    refine fx_pi 1186 148 0 39 (by decide +kernel) (by unfold fR; omega) ?_
    refine fx_la 0 40 (v := 1186) (by decide +kernel) rfl (by decide +kernel) ?_
    refine fx_gi 1186 148 0 43 (by decide +kernel) ?_
    try simp only [fu_app, fcy_app, Nat.reduceEqDiff, and_true, and_false, false_and, true_and, if_true, if_false, ite_true, ite_false, reduceIte, Int.reduceToNat, fx_simp0]
    refine fx_zle 50 46 (by decide +kernel) (by unfold fR; omega) (fun h43 => ?_) (fun h43 => ?_)
    · refine fx_la 0 51 (v := 1186) (by decide +kernel) rfl (by decide +kernel) ?_
      refine fx_li 1 52 (by decide +kernel) rfl ?_
      refine fx_ci (4) 53 (by decide +kernel) ?_
      refine fx_li 2 54 (by decide +kernel) rfl ?_
      refine fx_c4 334 21 57 1 [7] (by decide +kernel) (by decide) (by decide) (fI_n4 _) (fI_n4 _) (fI_n4 _) rfl (by first | decide | omega) ?_
      exfalso; omega
    · refine fx_ci (0) 47 (by decide +kernel) ?_
      refine fx_go 57 (by decide +kernel) ?_
      refine fx_ret (by decide +kernel) ?_
      exact k1 hn
  have two : 0 ≤ a ∧ a < g 149 3 → a = b → fx W r 2 335 36 [1186, fI a, fI b] [fI 2, 1186] g Q := fun hn e => by
    refine fx_pi 1186 148 0 39 (by decide +kernel) (by unfold fR; omega) ?_
    refine fx_la 0 40 (v := 1186) (by decide +kernel) rfl (by decide +kernel) ?_
    refine fx_gi 1186 148 0 43 (by decide +kernel) ?_
    try simp only [fu_app, fcy_app, Nat.reduceEqDiff, and_true, and_false, false_and, true_and, if_true, if_false, ite_true, ite_false, reduceIte, Int.reduceToNat, fx_simp0]
    refine fx_zle 50 46 (by decide +kernel) (by unfold fR; omega) (fun h43 => ?_) (fun h43 => ?_)
    · refine fx_la 0 51 (v := 1186) (by decide +kernel) rfl (by decide +kernel) ?_
      refine fx_li 1 52 (by decide +kernel) rfl ?_
      refine fx_ci (4) 53 (by decide +kernel) ?_
      refine fx_li 2 54 (by decide +kernel) rfl ?_
      refine fx_c4 334 21 57 1 [7] (by decide +kernel) (by decide) (by decide) (fI_n4 _) (fI_n4 _) (fI_n4 _) rfl (by first | decide | omega) ?_
      exfalso; omega
    · refine fx_ci (0) 47 (by decide +kernel) ?_
      refine fx_go 57 (by decide +kernel) ?_
      refine fx_ret (by decide +kernel) ?_
      exact k2 hn e
  refine fx_la 0 1 (v := 1186) (by decide +kernel) rfl (by decide +kernel) ?_
  refine fx_la 0 2 (v := 1186) (by decide +kernel) rfl (by decide +kernel) ?_
  refine fx_li 1 3 (by decide +kernel) rfl ?_
  refine fx_c2 297 21 6 1 [] (by decide +kernel) (by decide) (by decide) (fI_n4 _) rfl (by first | decide | omega) ?_
  refine sp_misPersonE ha b3.1 b3.2 (fun t => fK1 ?_) (fun t => fK1 ?_)
  · refine fx_zeq 22 9 (by decide +kernel) (by unfold fR; omega) (fun hc => absurd hc (by decide)) (fun _ => ?_)
    refine fx_li 2 10 (by decide +kernel) rfl ?_
    refine fx_ci (-1) 11 (by decide +kernel) ?_
    refine fx_ieq 26 14 (by decide +kernel) (by unfold fR; omega) (by unfold fR; omega) (fun h11 => ?_) (fun h11 => ?_)
    · refine fx_li 1 27 (by decide +kernel) rfl ?_
      refine fx_li 2 28 (by decide +kernel) rfl ?_
      refine fx_ine 35 31 (by decide +kernel) (by unfold fR; omega) (by unfold fR; omega) (fun h28 => ?_) (fun h28 => ?_)
      · refine fx_ci (0) 36 (by decide +kernel) ?_
        exact fin a.toNat (by omega) (by omega) (Or.inl (by omega)) (by omega)
      · refine fx_ci (2) 32 (by decide +kernel) ?_
        refine fx_go 36 (by decide +kernel) ?_
        exact two t (by omega)
    · refine fx_la 0 15 (v := 1186) (by decide +kernel) rfl (by decide +kernel) ?_
      refine fx_li 2 16 (by decide +kernel) rfl ?_
      refine fx_c2 297 21 19 1 [] (by decide +kernel) (by decide) (by decide) (fI_n4 _) rfl (by first | decide | omega) ?_
      refine sp_misPersonE hbr b3.1 b3.2 (fun u => fK1 ?_) (fun u => fK1 ?_)
      · refine fx_zne 26 22 (by decide +kernel) (by unfold fR; omega) (fun _ => ?_) (fun hc => absurd hc (by decide))
        refine fx_li 1 27 (by decide +kernel) rfl ?_
        refine fx_li 2 28 (by decide +kernel) rfl ?_
        refine fx_ine 35 31 (by decide +kernel) (by unfold fR; omega) (by unfold fR; omega) (fun h28 => ?_) (fun h28 => ?_)
        · refine fx_ci (0) 36 (by decide +kernel) ?_
          exact fin a.toNat (by omega) (by omega) (Or.inr u) (by omega)
        · refine fx_ci (2) 32 (by decide +kernel) ?_
          refine fx_go 36 (by decide +kernel) ?_
          exact two t (by omega)
      · refine fx_zne 26 22 (by decide +kernel) (by unfold fR; omega) (fun hc => absurd hc (by decide)) (fun _ => ?_)
        refine fx_ci (1) 23 (by decide +kernel) ?_
        refine fx_go 36 (by decide +kernel) ?_
        exact bad (by omega)
  · refine fx_zeq 22 9 (by decide +kernel) (by unfold fR; omega) (fun _ => ?_) (fun hc => absurd hc (by decide))
    refine fx_ci (1) 23 (by decide +kernel) ?_
    refine fx_go 36 (by decide +kernel) ?_
    exact bad (fun q => t q.1)
theorem sp_mseed {b : Int} (hbr : fR b) (kq : Q 1 (fI (g 149 11)) (frow (fu g 148 0 0) (tU (g 149) 11 b))) : fx W r 0 406 0 [1186, fI b, 7] [] g Q := by
  refine fx_rg (fun hg => ?_)
  unfold fR at hbr
  refine fx_la 0 1 (v := 1186) (by decide +kernel) rfl (by decide +kernel) ?_
  refine fx_ci (0) 2 (by decide +kernel) ?_
  refine fx_pi 1186 148 0 5 (by decide +kernel) (by unfold fR; omega) ?_
  refine fx_la 0 6 (v := 1186) (by decide +kernel) rfl (by decide +kernel) ?_
  refine fx_gp 1186 148 1 1194 9 (by decide +kernel) ?_
  refine fx_ci (11) 11 (by decide +kernel) ?_
  refine fx_al 1194 149 764 12 (by decide +kernel) rfl (by omega) (by omega) rfl ?_
  try simp only [fu_app, fcy_app, Nat.reduceEqDiff, and_true, and_false, false_and, true_and, if_true, if_false, ite_true, ite_false, reduceIte, Int.reduceToNat, fx_simp0]
  refine fx_si 2 13 (by decide +kernel) (Or.inr (fI_n4 _)) rfl ?_
  dsimp only [List.set]
  refine fx_la 0 14 (v := 1186) (by decide +kernel) rfl (by decide +kernel) ?_
  refine fx_gp 1186 148 1 1194 17 (by decide +kernel) ?_
  refine fx_ci (11) 19 (by decide +kernel) ?_
  refine fx_li 1 20 (by decide +kernel) rfl ?_
  refine fx_as 1194 149 764 21 (by decide +kernel) rfl (by omega) (by omega) rfl (by unfold fR; omega) ?_
  refine fx_li 2 22 (by decide +kernel) rfl ?_
  refine fx_ret (by decide +kernel) ?_
  rw [frow_fu0, fu_row (by decide)]
  exact kq
end FHM
end
section
/-! fx: one leaves, comes home, is held to live, votes, promises: the class -/
theorem cRem_ne {g : Nat → Nat → Int} {i c j : Nat} (hi : i < 12) (h1 : ¬ (c = 0 ∧ (j = 17 ∨ j = 16))) (h2 : c < 76 ∨ 147 < c) : cRem g i c j = g c j := by
  unfold cRem
  rw [fu_ne (by omega), cpT_ne (by omega), fu_ne (by omega)]
/-- what holds of the class's own in any case -/
def cBd (g : Nat → Nat → Int) : Prop := (0 ≤ g 3 4 ∧ g 3 4 ≤ 8) ∧ (0 ≤ g 0 17 ∧ g 0 17 < 12) ∧ (0 ≤ g 0 16 ∧ g 0 16 ≤ 12) ∧ (0 ≤ g 16 5 ∧ g 16 5 < 60) ∧ (0 ≤ g 16 6 ∧ g 16 6 ≤ 60) ∧ (0 ≤ g 16 9 ∧ g 16 9 ≤ 9999) ∧ (0 ≤ g 16 8 ∧ g 16 8 ≤ 9999) ∧ (∀ p : Nat, p < 8 → 0 ≤ g 4 p ∧ g 4 p ≤ 99) ∧ ∀ p : Nat, p < 8 → -1 ≤ g 17 p ∧ g 17 p ≤ 7
section FHN
variable {W : ax_W} {r : Nat} {g : Nat → Nat → Int} {Q : Nat → Nat → (Nat → Nat → Int) → Prop}
theorem sp_caddIron {v : Int} (h0 : 0 ≤ g 16 8) (h1 : g 16 8 ≤ 9999) (v0 : 0 ≤ v) (v1 : v ≤ 99) (kq : Q 0 0 (fu g 16 8 (if 9999 < g 16 8 + v then 9999 else g 16 8 + v))) : fx W r 1 157 0 [130, fI v] [] g Q := by
  have mn : ∀ (g : Nat → Nat → Int) (Q : Nat → Nat → (Nat → Nat → Int) → Prop) (z : Int), fR z → Q 1 (fI (if 9999 < z then 9999 else z)) g → fx (fWl W 0) r 0 158 0 [fI 9999, fI z] [] g Q := fun g Q z hz kq => by
    unfold fR at hz
    refine fx_li 0 1 (by decide +kernel) rfl ?_
    refine fx_li 1 2 (by decide +kernel) rfl ?_
    refine fx_igt 9 5 (by decide +kernel) (by unfold fR; omega) (by unfold fR; omega) (fun h2 => ?_) (fun h2 => ?_)
    · refine fx_li 1 10 (by decide +kernel) rfl ?_
      refine fx_ret (by decide +kernel) ?_
      rw [show (if 9999 < z then (9999 : Int) else z) = z by split <;> omega] at kq
      exact kq
    · refine fx_li 0 6 (by decide +kernel) rfl ?_
      refine fx_go 10 (by decide +kernel) ?_
      refine fx_ret (by decide +kernel) ?_
      rw [show (if 9999 < z then (9999 : Int) else z) = 9999 by split <;> omega] at kq
      exact kq
  refine fx_la 0 1 (v := 130) (by decide +kernel) rfl (by decide +kernel) ?_
  refine fx_ci (9999) 4 (by decide +kernel) ?_
  refine fx_la 0 5 (v := 130) (by decide +kernel) rfl (by decide +kernel) ?_
  refine fx_gi 130 16 8 8 (by decide +kernel) ?_
  refine fx_li 1 9 (by decide +kernel) rfl ?_
  refine fx_add 10 (by decide +kernel) rfl ?_
  refine fx_c2 158 22 13 0 [] (f_q22 (by decide +kernel)) (by decide) (fI_n4 _) (fI_n4 _) rfl (by first | decide | omega) ?_
  refine mn _ _ _ (by unfold fR; omega) (fK1 ?_)
  generalize hz : (if 9999 < g 16 8 + v then 9999 else g 16 8 + v) = z at kq ⊢
  have hz2 : 0 ≤ z ∧ z ≤ 9999 := by rw [← hz]; split <;> omega
  refine fx_pi 130 16 8 16 (by decide +kernel) (by unfold fR; omega) ?_
  refine fx_vret (by decide +kernel) ?_
  exact kq
theorem sp_cleave {a : Int} (hr : 1 ≤ r) (ha : fR a) (hb : cBd g) (k1 : ¬ (0 ≤ a ∧ a < g 3 4) → Q 4 0 g)
    (k2 : ∀ p : Nat, a = p → (p : Int) < g 3 4 → ¬ ((g 17 p = -1 ∧ fbt (g 16 7) p ≠ 1) ∧ g 4 p ≤ g 16 8) → Q 6 0 g)
    (k3 : ∀ p : Nat, a = p → (p : Int) < g 3 4 → g 17 p = -1 → fbt (g 16 7) p ≠ 1 → g 4 p ≤ g 16 8 → ∀ i : Nat, i < 12 → i = ((g 0 17).toNat + 1) % 12 → Q 1 (fI (g 16 8 - g 4 p)) (cNote 16 (fu (fu (cRem g i) 17 p 0) 16 8 (g 16 8 - g 4 p)) p 0 0)) : fx W r 2 150 0 [2, fI a, 7] [] g Q := by
  obtain ⟨b0, bn, bc, b5, b6, b9, b8, bw, bp⟩ := hb
  refine fx_rg (fun hg => ?_)
  refine fx_la 0 1 (v := 2) (by decide +kernel) rfl (by decide +kernel) ?_
  refine fx_li 1 2 (by decide +kernel) rfl ?_
  refine fx_c2 123 21 5 0 [] (by decide +kernel) (by decide) (by decide) (fI_n4 _) rfl (by first | decide | omega) ?_
  refine sp_cneedPerson hr ha b0.1 b0.2 (fun t => fK0 ?_) (fun t => fK2 (k := 2) ?_)
  · obtain ⟨p, rfl⟩ := Int.eq_ofNat_of_zero_le t.1
    have hp : p < 8 := by omega
    have bwp := bw p hp
    have bpp := bp p hp
    have h01 := fbt_01 (g 16 7) p
    refine fx_la 0 6 (v := 2) (by decide +kernel) rfl (by decide +kernel) ?_
    refine fx_gp 2 0 1 26 9 (by decide +kernel) ?_
    refine fx_gp 26 3 0 34 12 (by decide +kernel) ?_
    refine fx_li 1 13 (by decide +kernel) rfl ?_
    refine fx_al 34 4 8 14 (by decide +kernel) rfl (by omega) (by omega) rfl ?_
    try simp only [fu_app, fcy_app, Nat.reduceEqDiff, and_true, and_false, false_and, true_and, if_true, if_false, ite_true, ite_false, reduceIte, Int.reduceToNat, fx_simp0]
    rw [show ((p : Int)).toNat = p from rfl]
    refine fx_si 2 15 (by decide +kernel) (Or.inr (fI_n4 _)) rfl ?_
    dsimp only [List.set]
    refine fx_la 0 16 (v := 2) (by decide +kernel) rfl (by decide +kernel) ?_
    refine fx_gp 2 0 3 130 19 (by decide +kernel) ?_
    refine fx_gp 130 16 0 138 22 (by decide +kernel) ?_
    refine fx_li 1 23 (by decide +kernel) rfl ?_
    refine fx_al 138 17 8 24 (by decide +kernel) rfl (by omega) (by omega) rfl ?_
    try simp only [fu_app, fcy_app, Nat.reduceEqDiff, and_true, and_false, false_and, true_and, if_true, if_false, ite_true, ite_false, reduceIte, Int.reduceToNat, fx_simp0]
    rw [show ((p : Int)).toNat = p from rfl]
    refine fx_ci (-1) 25 (by decide +kernel) ?_
    refine fx_ine 50 28 (by decide +kernel) (by unfold fR; omega) (by unfold fR; omega) (fun h25 => ?_) (fun h25 => ?_)
    · refine fx_throw 4 (by decide +kernel) rfl (by omega) ?_
      exact k2 p rfl (by omega) (fun q => h25 q.1.1)
    · refine fx_la 0 29 (v := 2) (by decide +kernel) rfl (by decide +kernel) ?_
      refine fx_gp 2 0 3 130 32 (by decide +kernel) ?_
      refine fx_li 1 33 (by decide +kernel) rfl ?_
      refine fx_c2 44 21 36 1 [] (by decide +kernel) (by decide) (by decide) (fI_n4 _) rfl (by first | decide | omega) ?_
      refine sp_cisDead_table (fK1 ?_)
      refine fx_zne 50 39 (by decide +kernel) (by unfold fR; omega) (fun h36 => ?_) (fun h36 => ?_)
      · refine fx_throw 4 (by decide +kernel) rfl (by omega) ?_
        exact k2 p rfl (by omega) (fun q => q.1.2 (by have := fbt_01 (g 16 7) p; omega))
      · refine fx_la 0 40 (v := 2) (by decide +kernel) rfl (by decide +kernel) ?_
        refine fx_gp 2 0 3 130 43 (by decide +kernel) ?_
        refine fx_gi 130 16 8 46 (by decide +kernel) ?_
        try simp only [fu_app, fcy_app, Nat.reduceEqDiff, and_true, and_false, false_and, true_and, if_true, if_false, ite_true, ite_false, reduceIte, Int.reduceToNat, fx_simp0]
        refine fx_li 2 47 (by decide +kernel) rfl ?_
        refine fx_ige 60 50 (by decide +kernel) (by unfold fR; omega) (by unfold fR; omega) (fun h47 => ?_) (fun h47 => ?_)
        · refine fx_la 0 61 (v := 2) (by decide +kernel) rfl (by decide +kernel) ?_
          refine fx_c1 152 21 64 1 [] (by decide +kernel) (by decide) rfl (by first | decide | omega) ?_
          refine sp_crem bn.1 bn.2 bc.1 bc.2 (fun i hi hi2 => fK0 ?_)
          have k3 := k3 p rfl (by omega) h25 (by omega) (by omega) i hi hi2
          have eG : ∀ c j, 3 ≤ c → c < 76 → cRem g i c j = g c j := fun c j h1 h2 => cRem_ne hi (fun t => by omega) (Or.inl h2)
          generalize cRem g i = G at k3 eG ⊢
          refine fx_la 0 65 (v := 2) (by decide +kernel) rfl (by decide +kernel) ?_
          refine fx_gp 2 0 3 130 68 (by decide +kernel) ?_
          refine fx_gp 130 16 0 138 71 (by decide +kernel) ?_
          refine fx_li 1 72 (by decide +kernel) rfl ?_
          refine fx_ci (0) 73 (by decide +kernel) ?_
          refine fx_as 138 17 8 74 (by decide +kernel) rfl (by omega) (by omega) rfl (by unfold fR; omega) ?_
          refine fx_la 0 75 (v := 2) (by decide +kernel) rfl (by decide +kernel) ?_
          refine fx_gp 2 0 3 130 78 (by decide +kernel) ?_
          refine fx_dup 79 (by decide +kernel) rfl (by decide) ?_
          refine fx_gi 130 16 8 82 (by decide +kernel) ?_
          try simp only [fu_app, fcy_app, Nat.reduceEqDiff, and_true, and_false, false_and, true_and, if_true, if_false, ite_true, ite_false, reduceIte, Int.reduceToNat, fx_simp0]
          rw [eG _ _ (by decide) (by decide)]
          refine fx_li 2 83 (by decide +kernel) rfl ?_
          refine fx_sub 84 (by decide +kernel) rfl ?_
          refine fx_pi 130 16 8 87 (by decide +kernel) (by unfold fR; omega) ?_
          refine fx_la 0 88 (v := 2) (by decide +kernel) rfl (by decide +kernel) ?_
          refine fx_gp 2 0 3 130 91 (by decide +kernel) ?_
          refine fx_li 1 92 (by decide +kernel) rfl ?_
          refine fx_ci (0) 93 (by decide +kernel) ?_
          refine fx_ci (0) 94 (by decide +kernel) ?_
          refine fx_c4 153 21 97 0 [] (by decide +kernel) (by decide) (by decide) (fI_n4 _) (fI_n4 _) (fI_n4 _) rfl (by first | decide | omega) ?_
          refine sp_cnote_table (by rw [fu_nj (by decide), fu_nc (by decide), eG _ _ (by decide) (by decide)]; exact b5.1) (by rw [fu_nj (by decide), fu_nc (by decide), eG _ _ (by decide) (by decide)]; exact b5.2) (by rw [fu_nj (by decide), fu_nc (by decide), eG _ _ (by decide) (by decide)]; exact b6.1) (by rw [fu_nj (by decide), fu_nc (by decide), eG _ _ (by decide) (by decide)]; exact b6.2) (by rw [fu_nj (by decide), fu_nc (by decide), eG _ _ (by decide) (by decide)]; exact b9.1) (by rw [fu_nj (by decide), fu_nc (by decide), eG _ _ (by decide) (by decide)]; exact b9.2) (by omega) (by omega) (by decide) (by decide) (by decide) (by decide) (fK0 ?_)
          refine fx_la 0 98 (v := 2) (by decide +kernel) rfl (by decide +kernel) ?_
          refine fx_gp 2 0 3 130 101 (by decide +kernel) ?_
          refine fx_gi 130 16 8 104 (by decide +kernel) ?_
          try simp only [fu_app, fcy_app, Nat.reduceEqDiff, and_true, and_false, false_and, true_and, if_true, if_false, ite_true, ite_false, reduceIte, Int.reduceToNat, fx_simp0]
          rw [cNote_ne (by decide) (by decide), fu_eq]
          refine fx_ret (by decide +kernel) ?_
          exact k3
        · refine fx_throw 4 (by decide +kernel) rfl (by omega) ?_
          exact k2 p rfl (by omega) (fun q => by omega)
  · exact k1 t
end FHN
end
section
/-! fx: comes home, is held to live, votes, promises: the class -/
section FHO
variable {W : ax_W} {r : Nat} {g : Nat → Nat → Int} {Q : Nat → Nat → (Nat → Nat → Int) → Prop}
theorem sp_chome {a : Int} (hr : 1 ≤ r) (ha : fR a) (hb : cBd g) (k1 : ¬ (0 ≤ a ∧ a < g 3 4) → Q 4 0 g)
    (k2 : ∀ p : Nat, a = p → (p : Int) < g 3 4 → ¬ ((g 17 p ≠ -1 ∧ fbt (g 16 7) p ≠ 1) ∧ g 17 p = 0) → Q 6 0 g)
    (k3 : ∀ p : Nat, a = p → (p : Int) < g 3 4 → g 17 p = 0 → fbt (g 16 7) p ≠ 1 → ∀ i : Nat, i < 12 → i = ((g 0 17).toNat + 1) % 12 → Q 1 (fI (if 9999 < g 16 8 + g 4 p then 9999 else g 16 8 + g 4 p)) (fu (fu (fu (cNote 16 (cRem g i) p 2 0) 17 p (-1)) 20 p 0) 16 8 (if 9999 < g 16 8 + g 4 p then 9999 else g 16 8 + g 4 p))) : fx W r 2 155 0 [2, fI a] [] g Q := by
  obtain ⟨b0, bn, bc, b5, b6, b9, b8, bw, bp⟩ := hb
  refine fx_rg (fun hg => ?_)
  refine fx_la 0 1 (v := 2) (by decide +kernel) rfl (by decide +kernel) ?_
  refine fx_li 1 2 (by decide +kernel) rfl ?_
  refine fx_c2 123 21 5 0 [] (by decide +kernel) (by decide) (by decide) (fI_n4 _) rfl (by first | decide | omega) ?_
  refine sp_cneedPerson hr ha b0.1 b0.2 (fun t => fK0 ?_) (fun t => fK2 (k := 2) ?_)
  · obtain ⟨p, rfl⟩ := Int.eq_ofNat_of_zero_le t.1
    have hp : p < 8 := by omega
    have bwp := bw p hp
    have bpp := bp p hp
    refine fx_la 0 6 (v := 2) (by decide +kernel) rfl (by decide +kernel) ?_
    refine fx_gp 2 0 3 130 9 (by decide +kernel) ?_
    refine fx_li 1 10 (by decide +kernel) rfl ?_
    refine fx_c2 55 21 13 1 [] (by decide +kernel) (by decide) (by decide) (fI_n4 _) rfl (by first | decide | omega) ?_
    refine sp_cisAway_table hp (fun u => fK1 ?_) (fun u => fK1 ?_)
    · refine fx_zeq 28 16 (by decide +kernel) (by unfold fR; omega) (fun hc => absurd hc (by decide)) (fun _ => ?_)
      refine fx_la 0 17 (v := 2) (by decide +kernel) rfl (by decide +kernel) ?_
      refine fx_gp 2 0 3 130 20 (by decide +kernel) ?_
      refine fx_gp 130 16 0 138 23 (by decide +kernel) ?_
      refine fx_li 1 24 (by decide +kernel) rfl ?_
      refine fx_al 138 17 8 25 (by decide +kernel) rfl (by omega) (by omega) rfl ?_
      try simp only [fu_app, fcy_app, Nat.reduceEqDiff, and_true, and_false, false_and, true_and, if_true, if_false, ite_true, ite_false, reduceIte, Int.reduceToNat, fx_simp0]
      rw [show ((p : Int)).toNat = p from rfl]
      refine fx_zeq 38 28 (by decide +kernel) (by unfold fR; omega) (fun h25 => ?_) (fun h25 => ?_)
      · refine fx_la 0 39 (v := 2) (by decide +kernel) rfl (by decide +kernel) ?_
        refine fx_c1 152 21 42 1 [] (by decide +kernel) (by decide) rfl (by first | decide | omega) ?_
        refine sp_crem bn.1 bn.2 bc.1 bc.2 (fun i hi hi2 => fK0 ?_)
        have k3 := k3 p rfl (by omega) h25 u.2 i hi hi2
        have eG : ∀ c j, 3 ≤ c → c < 76 → cRem g i c j = g c j := fun c j h1 h2 => cRem_ne hi (fun t => by omega) (Or.inl h2)
        generalize cRem g i = G at k3 eG ⊢
        refine fx_la 0 43 (v := 2) (by decide +kernel) rfl (by decide +kernel) ?_
        refine fx_gp 2 0 3 130 46 (by decide +kernel) ?_
        refine fx_li 1 47 (by decide +kernel) rfl ?_
        refine fx_ci (2) 48 (by decide +kernel) ?_
        refine fx_ci (0) 49 (by decide +kernel) ?_
        refine fx_c4 153 21 52 0 [] (by decide +kernel) (by decide) (by decide) (fI_n4 _) (fI_n4 _) (fI_n4 _) rfl (by first | decide | omega) ?_
        refine sp_cnote_table (by rw [eG _ _ (by decide) (by decide)]; exact b5.1) (by rw [eG _ _ (by decide) (by decide)]; exact b5.2) (by rw [eG _ _ (by decide) (by decide)]; exact b6.1) (by rw [eG _ _ (by decide) (by decide)]; exact b6.2) (by rw [eG _ _ (by decide) (by decide)]; exact b9.1) (by rw [eG _ _ (by decide) (by decide)]; exact b9.2) (by omega) (by omega) (by decide) (by decide) (by decide) (by decide) (fK0 ?_)
        refine fx_la 0 53 (v := 2) (by decide +kernel) rfl (by decide +kernel) ?_
        refine fx_gp 2 0 3 130 56 (by decide +kernel) ?_
        refine fx_li 1 57 (by decide +kernel) rfl ?_
        refine fx_c2 156 21 60 0 [] (by decide +kernel) (by decide) (by decide) (fI_n4 _) rfl (by first | decide | omega) ?_
        refine sp_cbringHome_table hp (fK0 ?_)
        refine fx_la 0 61 (v := 2) (by decide +kernel) rfl (by decide +kernel) ?_
        refine fx_gp 2 0 3 130 64 (by decide +kernel) ?_
        refine fx_la 0 65 (v := 2) (by decide +kernel) rfl (by decide +kernel) ?_
        refine fx_gp 2 0 1 26 68 (by decide +kernel) ?_
        refine fx_gp 26 3 0 34 71 (by decide +kernel) ?_
        refine fx_li 1 72 (by decide +kernel) rfl ?_
        refine fx_al 34 4 8 73 (by decide +kernel) rfl (by omega) (by omega) rfl ?_
        try simp only [fu_app, fcy_app, Nat.reduceEqDiff, and_true, and_false, false_and, true_and, if_true, if_false, ite_true, ite_false, reduceIte, Int.reduceToNat, fx_simp0]
        rw [show ((p : Int)).toNat = p from rfl, cNote_ne (by omega) (by decide), eG _ _ (by decide) (by decide)]
        have e8 : fu (fu (cNote 16 G p 2 0) 17 p (-1)) 20 p 0 16 8 = g 16 8 := by rw [fu_nc (by decide), fu_nc (by decide), cNote_ne (by decide) (by decide), eG _ _ (by decide) (by decide)]
        refine fx_c2 157 21 76 1 [] (by decide +kernel) (by decide) (by decide) (fI_n4 _) rfl (by first | decide | omega) ?_
        refine sp_caddIron (by rw [e8]; exact b8.1) (by rw [e8]; exact b8.2) bwp.1 bwp.2 (fK0 ?_)
        rw [e8]
        refine fx_la 0 77 (v := 2) (by decide +kernel) rfl (by decide +kernel) ?_
        refine fx_gp 2 0 3 130 80 (by decide +kernel) ?_
        refine fx_gi 130 16 8 83 (by decide +kernel) ?_
        try simp only [fu_app, fcy_app, Nat.reduceEqDiff, and_true, and_false, false_and, true_and, if_true, if_false, ite_true, ite_false, reduceIte, Int.reduceToNat, fx_simp0]
        refine fx_ret (by decide +kernel) ?_
        exact k3
      · refine fx_throw 4 (by decide +kernel) rfl (by omega) ?_
        exact k2 p rfl (by omega) (fun q => h25 q.2)
    · refine fx_zeq 28 16 (by decide +kernel) (by unfold fR; omega) (fun _ => ?_) (fun hc => absurd hc (by decide))
      refine fx_throw 4 (by decide +kernel) rfl (by omega) ?_
      exact k2 p rfl (by omega) (fun q => u q.1)
  · exact k1 t
theorem sp_cvote {a b : Int} (hr : 1 ≤ r) (ha : fR a) (hbr : fR b) (hb : cBd g) (k1 : ¬ (0 ≤ a ∧ a < g 3 4) → Q 4 0 g)
    (k2 : 0 ≤ a ∧ a < g 3 4 → ¬ (0 ≤ b ∧ b ≤ 20) → Q 2 0 g)
    (k3 : ∀ p : Nat, a = p → (p : Int) < g 3 4 → 0 ≤ b → b ≤ 20 → ∀ i : Nat, i < 12 → i = ((g 0 17).toNat + 1) % 12 → Q 1 (fI (g 18 p)) (fu (cRem g i) 18 p b)) : fx W r 2 172 0 [2, fI a, fI b, 7] [] g Q := by
  obtain ⟨b0, bn, bc, b5, b6, b9, b8, bw, bp⟩ := hb
  refine fx_rg (fun hg => ?_)
  refine fx_la 0 1 (v := 2) (by decide +kernel) rfl (by decide +kernel) ?_
  refine fx_li 1 2 (by decide +kernel) rfl ?_
  refine fx_c2 123 21 5 0 [] (by decide +kernel) (by decide) (by decide) (fI_n4 _) rfl (by first | decide | omega) ?_
  refine sp_cneedPerson hr ha b0.1 b0.2 (fun t => fK0 ?_) (fun t => fK2 (k := 2) ?_)
  · obtain ⟨p, rfl⟩ := Int.eq_ofNat_of_zero_le t.1
    have hp : p < 8 := by omega
    have rv := hgA hg 8 (c := 18) (j := p) (by decide +kernel) (by omega)
    unfold fR at rv
    refine fx_la 0 6 (v := 2) (by decide +kernel) rfl (by decide +kernel) ?_
    refine fx_li 2 7 (by decide +kernel) rfl ?_
    refine fx_ci (0) 8 (by decide +kernel) ?_
    refine fx_ci (20) 10 (by decide +kernel) ?_
    refine fx_c4 173 21 13 0 [] (by decide +kernel) (by decide) (by decide) (fI_n4 _) (fI_n4 _) (fI_n4 _) rfl (by first | decide | omega) ?_
    refine sp_cneedWithin hr hbr (by unfold fR; omega) (by unfold fR; omega) (fun u => fK0 ?_) (fun u => fK2 (k := 0) ?_)
    · refine fx_la 0 14 (v := 2) (by decide +kernel) rfl (by decide +kernel) ?_
      refine fx_c1 152 21 17 1 [] (by decide +kernel) (by decide) rfl (by first | decide | omega) ?_
      refine sp_crem bn.1 bn.2 bc.1 bc.2 (fun i hi hi2 => fK0 ?_)
      have k3 := k3 p rfl (by omega) u.1 u.2 i hi hi2
      have eG : ∀ c j, 3 ≤ c → c < 76 → cRem g i c j = g c j := fun c j h1 h2 => cRem_ne hi (fun t => by omega) (Or.inl h2)
      generalize cRem g i = G at k3 eG ⊢
      refine fx_la 0 18 (v := 2) (by decide +kernel) rfl (by decide +kernel) ?_
      refine fx_gp 2 0 3 130 21 (by decide +kernel) ?_
      refine fx_gp 130 16 1 146 24 (by decide +kernel) ?_
      refine fx_li 1 25 (by decide +kernel) rfl ?_
      refine fx_al 146 18 8 26 (by decide +kernel) rfl (by omega) (by omega) rfl ?_
      try simp only [fu_app, fcy_app, Nat.reduceEqDiff, and_true, and_false, false_and, true_and, if_true, if_false, ite_true, ite_false, reduceIte, Int.reduceToNat, fx_simp0]
      rw [show ((p : Int)).toNat = p from rfl, eG _ _ (by decide) (by decide)]
      refine fx_si 3 27 (by decide +kernel) (Or.inr (fI_n4 _)) rfl ?_
      dsimp only [List.set]
      refine fx_la 0 28 (v := 2) (by decide +kernel) rfl (by decide +kernel) ?_
      refine fx_gp 2 0 3 130 31 (by decide +kernel) ?_
      refine fx_gp 130 16 1 146 34 (by decide +kernel) ?_
      refine fx_li 1 35 (by decide +kernel) rfl ?_
      refine fx_li 2 36 (by decide +kernel) rfl ?_
      refine fx_as 146 18 8 37 (by decide +kernel) rfl (by omega) (by omega) rfl (by unfold fR; omega) ?_
      refine fx_li 3 38 (by decide +kernel) rfl ?_
      refine fx_ret (by decide +kernel) ?_
      exact k3
    · exact k2 t u
  · exact k1 t
theorem sp_cpromise {a b : Int} (hr : 1 ≤ r) (ha : fR a) (hbr : fR b) (hb : cBd g) (k1 : ¬ ((0 ≤ a ∧ a < g 3 4) ∧ (b = -1 ∨ (0 ≤ b ∧ b < g 3 4))) → Q 4 0 g)
    (k2 : 0 ≤ a ∧ a < g 3 4 → a = b → Q 2 0 g)
    (k3 : ∀ p : Nat, a = p → (p : Int) < g 3 4 → (b = -1 ∨ (0 ≤ b ∧ b < g 3 4)) → a ≠ b → ∀ i : Nat, i < 12 → i = ((g 0 17).toNat + 1) % 12 → Q 1 (fI (g 19 p)) (fu (cRem g i) 19 p b)) : fx W r 2 175 0 [2, fI a, fI b, 7] [] g Q := by
  obtain ⟨b0, bn, bc, b5, b6, b9, b8, bw, bp⟩ := hb
  refine fx_rg (fun hg => ?_)
  have hbr2 := hbr
  have ha2 := ha
  unfold fR at hbr2 ha2
  have fin : 0 ≤ a ∧ a < g 3 4 → (b = -1 ∨ (0 ≤ b ∧ b < g 3 4)) → fx W r 2 175 15 [2, fI a, fI b, 7] [] g Q := fun t q => by
    obtain ⟨p, rfl⟩ := Int.eq_ofNat_of_zero_le t.1
    have hp : p < 8 := by omega
    have rv := hgA hg 8 (c := 19) (j := p) (by decide +kernel) (by omega)
    unfold fR at rv
    refine fx_la 0 16 (v := 2) (by decide +kernel) rfl (by decide +kernel) ?_
    refine fx_li 1 17 (by decide +kernel) rfl ?_
    refine fx_li 2 18 (by decide +kernel) rfl ?_
    refine fx_c3 148 21 21 0 [] (by decide +kernel) (by decide) (by decide) (fI_n4 _) (fI_n4 _) rfl (by first | decide | omega) ?_
    refine sp_needTwo hr ha hbr (fun u => fK0 ?_) (fun u => fK2 (k := 0) ?_)
    · refine fx_la 0 22 (v := 2) (by decide +kernel) rfl (by decide +kernel) ?_
      refine fx_c1 152 21 25 1 [] (by decide +kernel) (by decide) rfl (by first | decide | omega) ?_
      refine sp_crem bn.1 bn.2 bc.1 bc.2 (fun i hi hi2 => fK0 ?_)
      have k3 := k3 p rfl (by omega) q u i hi hi2
      have eG : ∀ c j, 3 ≤ c → c < 76 → cRem g i c j = g c j := fun c j h1 h2 => cRem_ne hi (fun t => by omega) (Or.inl h2)
      generalize cRem g i = G at k3 eG ⊢
      refine fx_la 0 26 (v := 2) (by decide +kernel) rfl (by decide +kernel) ?_
      refine fx_gp 2 0 3 130 29 (by decide +kernel) ?_
      refine fx_gp 130 16 2 154 32 (by decide +kernel) ?_
      refine fx_li 1 33 (by decide +kernel) rfl ?_
      refine fx_al 154 19 8 34 (by decide +kernel) rfl (by omega) (by omega) rfl ?_
      try simp only [fu_app, fcy_app, Nat.reduceEqDiff, and_true, and_false, false_and, true_and, if_true, if_false, ite_true, ite_false, reduceIte, Int.reduceToNat, fx_simp0]
      rw [show ((p : Int)).toNat = p from rfl, eG _ _ (by decide) (by decide)]
      refine fx_si 3 35 (by decide +kernel) (Or.inr (fI_n4 _)) rfl ?_
      dsimp only [List.set]
      refine fx_la 0 36 (v := 2) (by decide +kernel) rfl (by decide +kernel) ?_
      refine fx_gp 2 0 3 130 39 (by decide +kernel) ?_
      refine fx_gp 130 16 2 154 42 (by decide +kernel) ?_
      refine fx_li 1 43 (by decide +kernel) rfl ?_
      refine fx_li 2 44 (by decide +kernel) rfl ?_
      refine fx_as 154 19 8 45 (by decide +kernel) rfl (by omega) (by omega) rfl (by unfold fR; omega) ?_
      refine fx_li 3 46 (by decide +kernel) rfl ?_
      refine fx_ret (by decide +kernel) ?_
      exact k3
    · exact k2 t u
  refine fx_la 0 1 (v := 2) (by decide +kernel) rfl (by decide +kernel) ?_
  refine fx_li 1 2 (by decide +kernel) rfl ?_
  refine fx_c2 123 21 5 0 [] (by decide +kernel) (by decide) (by decide) (fI_n4 _) rfl (by first | decide | omega) ?_
  refine sp_cneedPerson hr ha b0.1 b0.2 (fun t => fK0 ?_) (fun t => fK2 (k := 2) ?_)
  · refine fx_li 2 6 (by decide +kernel) rfl ?_
    refine fx_ci (-1) 7 (by decide +kernel) ?_
    refine fx_ieq 15 10 (by decide +kernel) (by unfold fR; omega) (by unfold fR; omega) (fun h7 => ?_) (fun h7 => ?_)
    · exact fin t (Or.inl (by omega))
    · refine fx_la 0 11 (v := 2) (by decide +kernel) rfl (by decide +kernel) ?_
      refine fx_li 2 12 (by decide +kernel) rfl ?_
      refine fx_c2 123 21 15 0 [] (by decide +kernel) (by decide) (by decide) (fI_n4 _) rfl (by first | decide | omega) ?_
      refine sp_cneedPerson hr hbr b0.1 b0.2 (fun u => fK0 ?_) (fun u => fK2 (k := 2) ?_)
      · exact fin t (Or.inr u)
      · exact k1 (by omega)
  · exact k1 (fun q => t q.1)
theorem sp_cseed {b : Int} (hbr : fR b) (kq : Q 1 (fI (g 16 10)) (fu g 16 10 b)) : fx W r 0 61 0 [2, fI b, 7] [] g Q := by
  refine fx_rg (fun hg => ?_)
  unfold fR at hbr
  refine fx_la 0 1 (v := 2) (by decide +kernel) rfl (by decide +kernel) ?_
  refine fx_gp 2 0 3 130 4 (by decide +kernel) ?_
  refine fx_gi 130 16 10 7 (by decide +kernel) ?_
  refine fx_si 2 8 (by decide +kernel) (Or.inr (fI_n4 _)) rfl ?_
  dsimp only [List.set]
  refine fx_la 0 9 (v := 2) (by decide +kernel) rfl (by decide +kernel) ?_
  refine fx_gp 2 0 3 130 12 (by decide +kernel) ?_
  refine fx_li 1 13 (by decide +kernel) rfl ?_
  refine fx_pi 130 16 10 16 (by decide +kernel) (by unfold fR; omega) ?_
  refine fx_li 2 17 (by decide +kernel) rfl ?_
  refine fx_ret (by decide +kernel) ?_
  exact kq
end FHO
end
section
/-! fx: who is held to be dead, bit by bit; held to live: the class -/
theorem fbt_set {D : Int} {p q : Nat} (hp : p < 8) (hq : q < 8) : fbt (fop 4 D (fop 6 1 (p : Int))) (q : Int) = if q = p then 1 else fbt D q := by
  have h1 := fbt_or D (fop 6 1 (p : Int)) hq
  have h2 := fbt_sh hp hq
  have h3 := fbt_01 (fop 4 D (fop 6 1 (p : Int))) q
  have h4 := fbt_01 D q
  by_cases e : q = p
  · rw [if_pos e]
    exact h1.mpr (Or.inr (h2.mpr e))
  · rw [if_neg e]
    have h5 : ¬ fbt (fop 6 1 (p : Int)) (q : Int) = 1 := fun t => e (h2.mp t)
    rcases h4 with h4 | h4
    · have : ¬ fbt (fop 4 D (fop 6 1 (p : Int))) (q : Int) = 1 := fun t => by
        rcases h1.mp t with t | t
        · omega
        · exact h5 t
      omega
    · rw [h1.mpr (Or.inl h4), h4]
theorem f_nsb8 : ∀ a p : Fin 8, (Int32.ofInt (fop 5 (fop 6 1 ((a.val : Nat) : Int)) (-1))).toBitVec.getLsbD p.val = !decide (p.val = a.val) := by decide +kernel
theorem fbt_clr {D : Int} {p q : Nat} (hp : p < 8) (hq : q < 8) : fbt (fop 3 D (fop 5 (fop 6 1 (p : Int)) (-1))) (q : Int) = if q = p then 0 else fbt D q := by
  rw [fbt_lsb _ hq, fbt_lsb D hq]
  have e : Int32.ofInt (fop 3 D (fop 5 (fop 6 1 (p : Int)) (-1))) = Int32.ofInt D &&& Int32.ofInt (fop 5 (fop 6 1 (p : Int)) (-1)) := by
    have e1 : fop 3 D (fop 5 (fop 6 1 (p : Int)) (-1)) = (Int32.ofInt D &&& Int32.ofInt (fop 5 (fop 6 1 (p : Int)) (-1))).toInt := rfl
    rw [e1, Int32.ofInt_toInt]
  have h := f_nsb8 ⟨p, hp⟩ ⟨q, hq⟩
  have h : (Int32.ofInt (fop 5 (fop 6 1 (p : Int)) (-1))).toBitVec.getLsbD q = !decide (q = p) := h
  rw [e, Int32.toBitVec_and, BitVec.getLsbD_and, h]
  by_cases c : q = p
  · rw [if_pos c, decide_eq_true c]
    simp
  · rw [if_neg c, decide_eq_false c]
    simp
section FHP
variable {W : ax_W} {r : Nat} {g : Nat → Nat → Int} {Q : Nat → Nat → (Nat → Nat → Int) → Prop}
theorem sp_crise {a : Int} (hr : 1 ≤ r) (ha : fR a) (hb : cBd g) (k1 : ¬ (0 ≤ a ∧ a < g 3 4) → Q 4 0 g)
    (k2 : ∀ p : Nat, a = p → (p : Int) < g 3 4 → fbt (g 16 7) p ≠ 1 → Q 6 0 g)
    (kw : ∀ p : Nat, a = p → (p : Int) < g 3 4 → fbt (g 16 7) p = 1 → 0 ≤ g 17 p)
    (k3 : ∀ p : Nat, a = p → (p : Int) < g 3 4 → fbt (g 16 7) p = 1 → ∀ i : Nat, i < 12 → i = ((g 0 17).toNat + 1) % 12 → Q 1 (fI (g 17 p)) (fu (fu (fu (cNote 16 (cRem g i) p 2 (g 17 p)) 16 7 (fop 3 (g 16 7) (fop 5 (fop 6 1 (p : Int)) (-1)))) 17 p (-1)) 20 p 0)) : fx W r 2 170 0 [2, fI a, 7] [] g Q := by
  obtain ⟨b0, bn, bc, b5, b6, b9, b8, bw, bp⟩ := hb
  refine fx_rg (fun hg => ?_)
  refine fx_la 0 1 (v := 2) (by decide +kernel) rfl (by decide +kernel) ?_
  refine fx_li 1 2 (by decide +kernel) rfl ?_
  refine fx_c2 123 21 5 0 [] (by decide +kernel) (by decide) (by decide) (fI_n4 _) rfl (by first | decide | omega) ?_
  refine sp_cneedPerson hr ha b0.1 b0.2 (fun t => fK0 ?_) (fun t => fK2 (k := 2) ?_)
  · obtain ⟨p, rfl⟩ := Int.eq_ofNat_of_zero_le t.1
    have hp : p < 8 := by omega
    have bpp := bp p hp
    have h01 := fbt_01 (g 16 7) p
    refine fx_la 0 6 (v := 2) (by decide +kernel) rfl (by decide +kernel) ?_
    refine fx_gp 2 0 3 130 9 (by decide +kernel) ?_
    refine fx_li 1 10 (by decide +kernel) rfl ?_
    refine fx_c2 44 21 13 1 [] (by decide +kernel) (by decide) (by decide) (fI_n4 _) rfl (by first | decide | omega) ?_
    refine sp_cisDead_table (fK1 ?_)
    refine fx_zne 27 16 (by decide +kernel) (by unfold fR; omega) (fun h13 => ?_) (fun h13 => ?_)
    · refine fx_la 0 28 (v := 2) (by decide +kernel) rfl (by decide +kernel) ?_
      refine fx_c1 152 21 31 1 [] (by decide +kernel) (by decide) rfl (by first | decide | omega) ?_
      have hx : fbt (g 16 7) p = 1 := by omega
      have kw := kw p rfl (by omega) hx
      refine sp_crem bn.1 bn.2 bc.1 bc.2 (fun i hi hi2 => fK0 ?_)
      have k3 := k3 p rfl (by omega) hx i hi hi2
      have eG : ∀ c j, 3 ≤ c → c < 76 → cRem g i c j = g c j := fun c j h1 h2 => cRem_ne hi (fun t => by omega) (Or.inl h2)
      generalize cRem g i = G at k3 eG ⊢
      refine fx_la 0 32 (v := 2) (by decide +kernel) rfl (by decide +kernel) ?_
      refine fx_gp 2 0 3 130 35 (by decide +kernel) ?_
      refine fx_gp 130 16 0 138 38 (by decide +kernel) ?_
      refine fx_li 1 39 (by decide +kernel) rfl ?_
      refine fx_al 138 17 8 40 (by decide +kernel) rfl (by omega) (by omega) rfl ?_
      try simp only [fu_app, fcy_app, Nat.reduceEqDiff, and_true, and_false, false_and, true_and, if_true, if_false, ite_true, ite_false, reduceIte, Int.reduceToNat, fx_simp0]
      rw [show ((p : Int)).toNat = p from rfl, eG _ _ (by decide) (by decide)]
      refine fx_si 2 41 (by decide +kernel) (Or.inr (fI_n4 _)) rfl ?_
      dsimp only [List.set]
      refine fx_la 0 42 (v := 2) (by decide +kernel) rfl (by decide +kernel) ?_
      refine fx_gp 2 0 3 130 45 (by decide +kernel) ?_
      refine fx_li 1 46 (by decide +kernel) rfl ?_
      refine fx_ci (2) 47 (by decide +kernel) ?_
      refine fx_li 2 48 (by decide +kernel) rfl ?_
      refine fx_c4 153 21 51 0 [] (by decide +kernel) (by decide) (by decide) (fI_n4 _) (fI_n4 _) (fI_n4 _) rfl (by first | decide | omega) ?_
      refine sp_cnote_table (by rw [eG _ _ (by decide) (by decide)]; exact b5.1) (by rw [eG _ _ (by decide) (by decide)]; exact b5.2) (by rw [eG _ _ (by decide) (by decide)]; exact b6.1) (by rw [eG _ _ (by decide) (by decide)]; exact b6.2) (by rw [eG _ _ (by decide) (by decide)]; exact b9.1) (by rw [eG _ _ (by decide) (by decide)]; exact b9.2) (by omega) (by omega) (by decide) (by decide) (by omega) (by omega) (fK0 ?_)
      refine fx_la 0 52 (v := 2) (by decide +kernel) rfl (by decide +kernel) ?_
      refine fx_gp 2 0 3 130 55 (by decide +kernel) ?_
      refine fx_dup 56 (by decide +kernel) rfl (by decide) ?_
      refine fx_gi 130 16 7 59 (by decide +kernel) ?_
      try simp only [fu_app, fcy_app, Nat.reduceEqDiff, and_true, and_false, false_and, true_and, if_true, if_false, ite_true, ite_false, reduceIte, Int.reduceToNat, fx_simp0]
      rw [cNote_ne (by decide) (by decide), eG _ _ (by decide) (by decide)]
      refine fx_ci (1) 60 (by decide +kernel) ?_
      refine fx_li 1 61 (by decide +kernel) rfl ?_
      refine fx_bin 6 62 (by decide +kernel) rfl (fun h => absurd h (by decide)) ?_
      refine fx_ci (-1) 63 (by decide +kernel) ?_
      refine fx_bin 5 64 (by decide +kernel) rfl (fun h => absurd h (by decide)) ?_
      refine fx_bin 3 65 (by decide +kernel) rfl (fun h => absurd h (by decide)) ?_
      refine fx_pi 130 16 7 68 (by decide +kernel) (by first | exact fop_R _ _ _ | (unfold fR; omega)) ?_
      refine fx_la 0 69 (v := 2) (by decide +kernel) rfl (by decide +kernel) ?_
      refine fx_gp 2 0 3 130 72 (by decide +kernel) ?_
      refine fx_li 1 73 (by decide +kernel) rfl ?_
      refine fx_c2 156 21 76 0 [] (by decide +kernel) (by decide) (by decide) (fI_n4 _) rfl (by first | decide | omega) ?_
      refine sp_cbringHome_table hp (fK0 ?_)
      refine fx_li 2 77 (by decide +kernel) rfl ?_
      refine fx_ret (by decide +kernel) ?_
      exact k3
    · refine fx_throw 4 (by decide +kernel) rfl (by omega) ?_
      exact k2 p rfl (by omega) (by omega)
  · exact k1 t
end FHP
end
section
/-! fx: acts keep the relation -/
/-- tapes, house, table, log, what is remembered -/
def RMain (g : Nat → Nat → Int) : Prop := (∀ j, j < 400 → g 2 j = g 153 j) ∧ RHf 3 g (g 149) ∧ RTb 16 g (g 149) ∧ RIv (g 149) ∧ RPs g
theorem RMain_act {g g2 : Nat → Nat → Int} {i : Nat} (h : RMain g) (hd : g 3 5 ≤ 6) (hi : i < 12) (hi2 : i = ((g 0 17).toNat + 1) % 12)
    (c1 : ∀ c j, ¬ (16 ≤ c ∧ c ≤ 21) → c < 148 → g2 c j = cRem g i c j) (m1 : ∀ c j, c ≠ 149 → 148 ≤ c → ¬ (c = 148 ∧ j = 0) → g2 c j = mRem g c j) (hp : ∀ k, gHp k → g2 149 k = g 149 k)
    (hT : RTb 16 g2 (g2 149)) (hI : RIv (g2 149)) : RMain g2 := by
  obtain ⟨a1, a2, a3, a4, a5⟩ := h
  have nr : ∀ c j, ¬ (16 ≤ c ∧ c ≤ 21) → c < 76 → ¬ (c = 0 ∧ (j = 17 ∨ j = 16)) → g2 c j = g c j := fun c j h1 h2 h3 => by
    rw [c1 c j h1 (by omega), cRem_ne hi h3 (Or.inl h2)]
  refine ⟨fun j hj => ?_, ?_, hT, hI, ?_⟩
  · rw [nr _ _ (by decide) (by decide) (fun t => absurd t.1 (by decide)), m1 _ _ (by decide) (by decide) (fun t => absurd t.1 (by decide)), mRem_ne (by decide) (fun t => absurd t.1 (by decide))]
    exact a1 j hj
  · have q : RHf 3 g2 (g 149) := RHf_eq a2 (fun j _ _ => nr _ _ (by decide) (by decide) (fun t => absurd t.1 (by decide))) (fun k j k1 k2 => nr _ _ (by omega) (by omega) (by omega))
    exact RHf_t q (by rw [nr _ _ (by decide) (by decide) (by decide)]; exact hd) hp
  · refine RPs_rem a5 a3.1 a3.2 a4 hi2 (fun c j h1 h2 => c1 c j (by omega) (by omega)) ?_ ?_ (fun j => ?_) ?_ hp
    · rw [c1 _ _ (by decide) (by decide)]
      unfold cRem
      rw [fu_nj (by decide), cpT_ne (by omega), fu_eq]
    · rw [c1 _ _ (by decide) (by decide)]
      unfold cRem
      rw [fu_eq]
    · rw [m1 _ _ (by decide) (by decide) (fun t => absurd t.1 (by decide))]
      unfold mRem
      rw [if_pos rfl]
    · rw [m1 _ _ (by decide) (by decide) (by decide)]
      unfold mRem
      rw [if_neg (by decide), if_pos ⟨rfl, rfl⟩]
theorem cBd_weak {g : Nat → Nat → Int} : cBd g → 0 ≤ g 0 17 ∧ g 0 17 < 12 := fun h => h.2.1
/-- leave, on both sides -/
theorem RMain_leave {g g2 : Nat → Nat → Int} {i p : Nat} (h : RMain g) (hd : g 3 5 ≤ 6) (hi : i < 12) (hi2 : i = ((g 0 17).toNat + 1) % 12) (hp : p < 8) (n0 : 0 ≤ g 149 9) (n1 : g 149 9 ≤ 9999) (w0 : 0 ≤ g 149 (14 + 7 * p)) (i1 : g 149 8 ≤ 9999) (hl : g 149 (12 + 7 * p) = -1) (hdd : g 149 (17 + 7 * p) ≠ 1)
    (ec : ∀ c j, c < 148 → g2 c j = cNote 16 (fu (fu (cRem g i) 17 p 0) 16 8 (g 16 8 - g 4 p)) p 0 0 c j)
    (em : ∀ c j, 148 ≤ c → ¬ (c = 148 ∧ j = 0) → g2 c j = frow (mRem g) (tLeave (g 149) p) c j) : RMain g2 := by
  have a2 := h.2.1
  have a3 := h.2.2.1
  have a4 := h.2.2.2.1
  have row : g2 149 = tLeave (g 149) p := by
    funext k
    rw [em _ _ (by decide) (fun t => absurd t.1 (by decide)), frow_m]
  have ew : g 4 p = g 149 (14 + 7 * p) := a2.2.2.2.2.2.2.1 p hp
  have e8 : g 16 8 = g 149 8 := a3.1.2.2.2.2.2.1
  -- cold is 0 already
  have ec0 : g 149 (18 + 7 * p) = 0 := a4.1 p hp hl
  have ti : tIron (g 149) (-g 149 (14 + 7 * p)) = tU (g 149) 8 (g 149 8 - g 149 (14 + 7 * p)) := by
    unfold tIron
    rw [if_neg (by omega)]
    rfl
  have tt : tLeave (g 149) p = tNote (tU (tU (g 149) (12 + 7 * p + 0) 0) 8 (g 149 8 - g 149 (14 + 7 * p))) p 0 0 := by
    unfold tLeave
    rw [ti]
    have e : tU (tU (tU (g 149) 8 (g 149 8 - g 149 (14 + 7 * p))) (12 + 7 * p + 0) 0) (12 + 7 * p + 6) 0 = tU (tU (g 149) (12 + 7 * p + 0) 0) 8 (g 149 8 - g 149 (14 + 7 * p)) := by
      funext k
      unfold tU
      by_cases k1 : k = 12 + 7 * p + 6
      · rw [if_pos k1, if_neg (by omega), if_neg (by omega), k1, show 12 + 7 * p + 6 = 18 + 7 * p by omega, ec0]
      · rw [if_neg k1]
        by_cases k2 : k = 8
        · rw [if_pos k2, if_neg (by omega), if_pos k2]
        · rw [if_neg k2, if_neg k2]
    rw [e]
  have eG : ∀ c j, 3 ≤ c → c < 76 → cRem g i c j = g c j := fun c j h1 h2 => cRem_ne hi (fun t => by omega) (Or.inl h2)
  refine RMain_act h hd hi hi2 (fun c j h1 h2 => ?_) (fun c j h1 h2 h3 => ?_) (fun k hk => ?_) ?_ ?_
  · rw [ec c j h2, cNote_ne (by omega) (by omega), fu_nc (by omega), fu_nc (by omega)]
  · rw [em c j h2 h3, frow_ne h1]
  · rw [row, tt]
    unfold gHp at hk
    unfold tNote
    rw [if_neg (by omega), if_neg (by omega), if_neg (by omega), if_neg (by omega), if_neg (by omega), if_neg (by omega), tU_ne (by omega), tU_ne (by omega)]
  · rw [row, tt]
    have b0 : RTb 16 (cRem g i) (g 149) := RTb_cg a3 (fun j _ _ => eG _ _ (by decide) (by decide)) (fun k j _ _ => eG _ _ (by omega) (by omega)) (fun _ _ => rfl)
    have b1 := RTb_a (v := 0) b0 hp (i := 1) (w := 0) (by omega)
    have b2 := RTb_f (j := 8) (k := 8) (v := g 149 8 - g 149 (14 + 7 * p)) b1 (by omega)
    have b3 := RTb_note (p := (p : Int)) (k := 0) (w := 0) b2 (by rw [tU_ne (by decide), tU_ne (by omega)]; exact n0) (by rw [tU_ne (by decide), tU_ne (by omega)]; exact n1) (by omega) (by omega) (by decide) (by decide) (by decide) (by decide)
    rw [← e8, ← ew] at b3
    refine RTb_cg b3 (fun j _ _ => ?_) (fun k j _ _ => ?_) (fun _ _ => by rw [e8, ew])
    · exact ec _ _ (by decide)
    · exact ec _ _ (by omega)
  · rw [row, tt]
    refine RIv_note ?_
    refine RIv_u ?_ ⟨by decide, Or.inl (by decide)⟩
    obtain ⟨r1, r2, r3⟩ := a4
    refine ⟨fun q hq => ?_, fun q hq => ?_, fun q hq => ?_⟩
    · by_cases e : q = p
      · subst e
        rw [show 12 + 7 * q = 12 + 7 * q + 0 from rfl, tU_eq]
        intro t
        exact absurd t (by decide)
      · rw [tU_ne (by omega), tU_ne (by omega)]
        exact r1 q hq
    · by_cases e : q = p
      · subst e
        rw [show 12 + 7 * q = 12 + 7 * q + 0 from rfl, tU_eq]
        intro _
        decide
      · rw [tU_ne (by omega), tU_ne (by omega)]
        exact r2 q hq
    · rw [tU_ne (by omega), tU_ne (by omega)]
      exact r3 q hq
end
section
/-! fx: votes, promises, home, rise, undo, seed keep the relation -/
/-- a vote, a promise -/
theorem RMain_set {g g2 : Nat → Nat → Int} {i p k w : Nat} {v : Int} (h : RMain g) (hd : g 3 5 ≤ 6) (hi : i < 12) (hi2 : i = ((g 0 17).toNat + 1) % 12) (hp : p < 8) (hk : (k = 2 ∧ w = 1) ∨ (k = 3 ∧ w = 4))
    (ec : ∀ c j, c < 148 → g2 c j = fu (cRem g i) (16 + k) p v c j) (em : ∀ c j, 148 ≤ c → ¬ (c = 148 ∧ j = 0) → g2 c j = frow (mRem g) (tU (g 149) (12 + 7 * p + w) v) c j) : RMain g2 := by
  have a3 := h.2.2.1
  have a4 := h.2.2.2.1
  have row : g2 149 = tU (g 149) (12 + 7 * p + w) v := by
    funext k
    rw [em _ _ (by decide) (fun t => absurd t.1 (by decide)), frow_m]
  have eG : ∀ c j, 3 ≤ c → c < 76 → cRem g i c j = g c j := fun c j h1 h2 => cRem_ne hi (fun t => by omega) (Or.inl h2)
  refine RMain_act h hd hi hi2 (fun c j h1 h2 => ?_) (fun c j h1 h2 h3 => ?_) (fun q hq => ?_) ?_ ?_
  · rw [ec c j h2, fu_nc (by omega)]
  · rw [em c j h2 h3, frow_ne h1]
  · rw [row]
    unfold gHp at hq
    rw [tU_ne (by omega)]
  · rw [row]
    have b0 : RTb 16 (cRem g i) (g 149) := RTb_cg a3 (fun j _ _ => eG _ _ (by decide) (by decide)) (fun k j _ _ => eG _ _ (by omega) (by omega)) (fun _ _ => rfl)
    have b1 := RTb_a (v := v) b0 hp (i := k) (w := w) (by omega)
    exact RTb_cg b1 (fun j _ _ => ec _ _ (by decide)) (fun k j _ _ => ec _ _ (by omega)) (fun _ _ => rfl)
  · rw [row]
    exact RIv_u a4 ⟨by omega, Or.inr (Or.inr (by omega))⟩
theorem RIv_home {t : Nat → Int} {p : Nat} (h : RIv t) (hp : p < 8) (hd : t (17 + 7 * p) = 0) : RIv (tU (tU t (12 + 7 * p + 0) (-1)) (12 + 7 * p + 6) 0) := by
  obtain ⟨r1, r2, r3⟩ := h
  refine ⟨fun q hq => ?_, fun q hq => ?_, fun q hq => ?_⟩
  · by_cases e : q = p
    · subst e
      intro _
      rw [show 18 + 7 * q = 12 + 7 * q + 6 by omega, tU_eq]
    · rw [tU_ne (by omega), tU_ne (by omega), tU_ne (by omega), tU_ne (by omega)]
      exact r1 q hq
  · by_cases e : q = p
    · subst e
      rw [tU_ne (by omega), tU_ne (by omega), hd]
      intro t
      exact absurd rfl t
    · rw [tU_ne (by omega), tU_ne (by omega), tU_ne (by omega), tU_ne (by omega)]
      exact r2 q hq
  · rw [tU_ne (by omega), tU_ne (by omega), tU_ne (by omega), tU_ne (by omega)]
    exact r3 q hq
theorem RMain_undo {g g2 : Nat → Nat → Int} {i : Nat} (h : RMain g) (hd : g 3 5 ≤ 6) (hc : 1 ≤ g 148 6) (hi : g 0 17 = (i : Int))
    (ec : ∀ c j, c < 148 → g2 c j = cUnd g i c j) (em : ∀ c j, 148 ≤ c → ¬ (c = 148 ∧ j = 0) → g2 c j = mUnd g c j) : RMain g2 := by
  obtain ⟨a1, a2, a3, a4, a5⟩ := h
  have nr : ∀ c j, c < 16 → ¬ (c = 0 ∧ (j = 17 ∨ j = 16)) → g2 c j = g c j := fun c j h1 h2 => by
    rw [ec c j (by omega)]
    unfold cUnd
    rw [fu_ne (by omega), fu_ne (by omega), cpT_ne (by omega)]
  obtain ⟨u1, u2, u3, u4, u5⟩ := RPs_und (g2 := g2) a5 hc hi (fun c j h1 h2 => ec c j (by omega)) (by rw [ec _ _ (by decide)]; unfold cUnd; rw [fu_nj (by decide), fu_eq]) (by rw [ec _ _ (by decide)]; unfold cUnd; rw [fu_eq]) (fun j => by rw [em _ _ (by decide) (fun t => absurd t.1 (by decide)), mUnd_ne (by decide) (fun t => absurd t.1 (by decide))]) (by rw [em _ _ (by decide) (by decide), mUnd_a]) (fun k hk => by rw [em _ _ (by decide) (fun t => absurd t.1 (by decide)), mUnd_m, if_pos hk])
  refine ⟨fun j hj => ?_, ?_, ⟨u2, u3⟩, u4, u1⟩
  · rw [nr _ _ (by decide) (fun t => absurd t.1 (by decide)), em _ _ (by decide) (fun t => absurd t.1 (by decide)), mUnd_ne (by decide) (fun t => absurd t.1 (by decide))]
    exact a1 j hj
  · have q : RHf 3 g2 (g 149) := RHf_eq a2 (fun j _ _ => nr _ _ (by decide) (fun t => absurd t.1 (by decide))) (fun k j k1 k2 => nr _ _ (by omega) (by omega))
    exact RHf_t q (by rw [nr _ _ (by decide) (by decide)]; exact hd) u5
end
section
/-! fx: coming home, being held to live keep the relation -/
theorem tNote_tU {t : Nat → Int} {k : Nat} {v p q w : Int} (hk : k < 124) (h9 : k ≠ 9) (h10 : k ≠ 10) : tU (tNote t p q w) k v = tNote (tU t k v) p q w := by
  funext j
  by_cases e : j = k
  · subst e
    rw [tU_eq]
    unfold tNote
    rw [if_neg h10, if_neg (by omega), if_neg (by omega), if_neg (by omega), if_neg (by omega), if_neg (by omega), tU_eq]
  · rw [tU_ne e]
    unfold tNote
    rw [tU_ne (j := 10) (by omega), tU_ne (j := 9) (by omega), tU_ne e]
    by_cases c : 128 ≤ j ∧ j < 364
    · rw [if_pos c, if_pos c, tU_ne (by omega)]
    · rw [if_neg c, if_neg c]
theorem tU_sw {t : Nat → Int} {k l : Nat} {u v : Int} (h : k ≠ l) : tU (tU t k u) l v = tU (tU t l v) k u := by
  funext j
  unfold tU
  by_cases e : j = l
  · rw [if_pos e, if_neg (by omega), if_pos e]
  · rw [if_neg e, if_neg e]
theorem RMain_home {g g2 : Nat → Nat → Int} {i p : Nat} (h : RMain g) (hd : g 3 5 ≤ 6) (hi : i < 12) (hi2 : i = ((g 0 17).toNat + 1) % 12) (hp : p < 8) (n0 : 0 ≤ g 149 9) (n1 : g 149 9 ≤ 9999) (hdd : g 149 (17 + 7 * p) = 0)
    (ec : ∀ c j, c < 148 → g2 c j = fu (fu (fu (cNote 16 (cRem g i) p 2 0) 17 p (-1)) 20 p 0) 16 8 (if 9999 < g 16 8 + g 4 p then 9999 else g 16 8 + g 4 p) c j)
    (em : ∀ c j, 148 ≤ c → ¬ (c = 148 ∧ j = 0) → g2 c j = frow (mRem g) (tHome (g 149) p) c j) : RMain g2 := by
  have a2 := h.2.1
  have a3 := h.2.2.1
  have a4 := h.2.2.2.1
  have row : g2 149 = tHome (g 149) p := by
    funext k
    rw [em _ _ (by decide) (fun t => absurd t.1 (by decide)), frow_m]
  have ew : g 4 p = g 149 (14 + 7 * p) := a2.2.2.2.2.2.2.1 p hp
  have e8 : g 16 8 = g 149 8 := a3.1.2.2.2.2.2.1
  rw [e8, ew] at ec
  have tt : tHome (g 149) p = tU (tU (tU (tNote (g 149) p 2 0) (12 + 7 * p + 0) (-1)) (12 + 7 * p + 6) 0) 8 (if 9999 < g 149 8 + g 149 (14 + 7 * p) then 9999 else g 149 8 + g 149 (14 + 7 * p)) := by
    unfold tHome tIron
    rw [tNote_tU (by omega) (by omega) (by omega), tNote_tU (by omega) (by omega) (by omega), tNote_tU (by decide) (by decide) (by decide)]
    rw [tU_sw (k := 8) (by omega), tU_sw (k := 8) (by omega)]
  have eG : ∀ c j, 3 ≤ c → c < 76 → cRem g i c j = g c j := fun c j h1 h2 => cRem_ne hi (fun t => by omega) (Or.inl h2)
  refine RMain_act h hd hi hi2 (fun c j h1 h2 => ?_) (fun c j h1 h2 h3 => ?_) (fun k hk => ?_) ?_ ?_
  · rw [ec c j h2, fu_nc (by omega), fu_nc (by omega), fu_nc (by omega), cNote_ne (by omega) (by omega)]
  · rw [em c j h2 h3, frow_ne h1]
  · rw [row, tt]
    unfold gHp at hk
    rw [tU_ne (by omega), tU_ne (by omega), tU_ne (by omega)]
    unfold tNote
    rw [if_neg (by omega), if_neg (by omega), if_neg (by omega), if_neg (by omega), if_neg (by omega), if_neg (by omega)]
  · rw [row, tt]
    have b0 : RTb 16 (cRem g i) (g 149) := RTb_cg a3 (fun j _ _ => eG _ _ (by decide) (by decide)) (fun k j _ _ => eG _ _ (by omega) (by omega)) (fun _ _ => rfl)
    have b1 := RTb_note (p := (p : Int)) (k := 2) (w := 0) b0 n0 n1 (by omega) (by omega) (by decide) (by decide) (by decide) (by decide)
    have b2 := RTb_a (v := -1) b1 hp (i := 1) (w := 0) (by omega)
    have b3 := RTb_a (v := 0) b2 hp (i := 4) (w := 6) (by omega)
    have b4 := RTb_f (j := 8) (k := 8) (v := if 9999 < g 149 8 + g 149 (14 + 7 * p) then 9999 else g 149 8 + g 149 (14 + 7 * p)) b3 (by omega)
    exact RTb_cg b4 (fun j _ _ => ec _ _ (by decide)) (fun k j _ _ => ec _ _ (by omega)) (fun _ _ => rfl)
  · rw [row]
    unfold tHome tIron
    refine RIv_note (RIv_home (RIv_u a4 ⟨by decide, Or.inl (by decide)⟩) hp ?_)
    rw [tU_ne (by omega)]
    exact hdd
theorem RMain_rise {g g2 : Nat → Nat → Int} {i p : Nat} (h : RMain g) (hd : g 3 5 ≤ 6) (hi : i < 12) (hi2 : i = ((g 0 17).toNat + 1) % 12) (hp : p < 8) (n0 : 0 ≤ g 149 9) (n1 : g 149 9 ≤ 9999) (p0 : 0 ≤ g 149 (12 + 7 * p)) (p1 : g 149 (12 + 7 * p) ≤ 7)
    (ec : ∀ c j, c < 148 → g2 c j = fu (fu (fu (cNote 16 (cRem g i) p 2 (g 17 p)) 16 7 (fop 3 (g 16 7) (fop 5 (fop 6 1 (p : Int)) (-1)))) 17 p (-1)) 20 p 0 c j)
    (em : ∀ c j, 148 ≤ c → ¬ (c = 148 ∧ j = 0) → g2 c j = frow (mRem g) (tRise (g 149) p) c j) : RMain g2 := by
  have a2 := h.2.1
  have a3 := h.2.2.1
  have a4 := h.2.2.2.1
  have row : g2 149 = tRise (g 149) p := by
    funext k
    rw [em _ _ (by decide) (fun t => absurd t.1 (by decide)), frow_m]
  have ep : g 17 p = g 149 (12 + 7 * p) := a3.1.1 p hp
  rw [ep] at ec
  have tt : tRise (g 149) p = tU (tU (tU (tNote (g 149) p 2 (g 149 (12 + 7 * p))) (12 + 7 * p + 5) 0) (12 + 7 * p + 0) (-1)) (12 + 7 * p + 6) 0 := by
    unfold tRise
    rw [tNote_tU (by omega) (by omega) (by omega), tNote_tU (by omega) (by omega) (by omega), tNote_tU (by omega) (by omega) (by omega)]
  have eG : ∀ c j, 3 ≤ c → c < 76 → cRem g i c j = g c j := fun c j h1 h2 => cRem_ne hi (fun t => by omega) (Or.inl h2)
  refine RMain_act h hd hi hi2 (fun c j h1 h2 => ?_) (fun c j h1 h2 h3 => ?_) (fun k hk => ?_) ?_ ?_
  · rw [ec c j h2, fu_nc (by omega), fu_nc (by omega), fu_nc (by omega), cNote_ne (by omega) (by omega)]
  · rw [em c j h2 h3, frow_ne h1]
  · rw [row, tt]
    unfold gHp at hk
    rw [tU_ne (by omega), tU_ne (by omega), tU_ne (by omega)]
    unfold tNote
    rw [if_neg (by omega), if_neg (by omega), if_neg (by omega), if_neg (by omega), if_neg (by omega), if_neg (by omega)]
  · rw [row, tt]
    have b0 : RTb 16 (cRem g i) (g 149) := RTb_cg a3 (fun j _ _ => eG _ _ (by decide) (by decide)) (fun k j _ _ => eG _ _ (by omega) (by omega)) (fun _ _ => rfl)
    have b1 := RTb_note (p := (p : Int)) (k := 2) (w := g 149 (12 + 7 * p)) b0 n0 n1 (by omega) (by omega) (by decide) (by decide) p0 p1
    have b2 := RTb_d (z := 0) (v := fop 3 (g 16 7) (fop 5 (fop 6 1 (p : Int)) (-1))) b1 hp (fun q hq => by
      rw [cNote_ne (by decide) (by decide), eG _ _ (by decide) (by decide)]
      exact fbt_clr hp hq)
    have b3 := RTb_a (v := -1) b2 hp (i := 1) (w := 0) (by omega)
    have b4 := RTb_a (v := 0) b3 hp (i := 4) (w := 6) (by omega)
    exact RTb_cg b4 (fun j _ _ => ec _ _ (by decide)) (fun k j _ _ => ec _ _ (by omega)) (fun _ _ => rfl)
  · rw [row]
    unfold tRise
    refine RIv_note (RIv_home ?_ hp (by rw [show 17 + 7 * p = 12 + 7 * p + 5 by omega, tU_eq]))
    obtain ⟨r1, r2, r3⟩ := a4
    refine ⟨fun q hq => ?_, fun q hq => ?_, fun q hq hh => ?_⟩
    · rw [tU_ne (by omega), tU_ne (by omega)]
      exact r1 q hq
    · by_cases e : q = p
      · subst e
        rw [show 17 + 7 * q = 12 + 7 * q + 5 by omega, tU_eq]
        intro t
        exact absurd rfl t
      · rw [tU_ne (by omega), tU_ne (by omega)]
        exact r2 q hq
    · rw [tU_ne (by omega)] at hh
      by_cases e : q = p
      · subst e
        rw [show 17 + 7 * q = 12 + 7 * q + 5 by omega, tU_eq]
      · rw [tU_ne (by omega)]
        exact r3 q hq hh
end
section
/-! fx: seed, texts, the image: what is remembered -/
theorem RPs_cg {g g2 : Nat → Nat → Int} (h : RPs g) (e1 : ∀ c j, 76 ≤ c → c ≤ 147 → g2 c j = g c j) (e2 : g2 0 17 = g 0 17) (e3 : g2 0 16 = g 0 16) (e4 : ∀ j, g2 152 j = g 152 j) (e5 : g2 148 6 = g 148 6) (e6 : ∀ k, gHp k → g2 149 k = g 149 k) : RPs g2 := by
  obtain ⟨a1, a2, a3, a4, a5, a6⟩ := h
  refine ⟨by rw [e3, e5]; exact a1, by rw [e5]; exact a2, by rw [e5]; exact a3, by rw [e2]; exact a4, by rw [e2]; exact a5, fun r hr => ?_⟩
  rw [e5] at hr
  obtain ⟨b1, b2, b3, b4⟩ := a6 r hr
  have ar : aRow g2 r = aRow g r := by
    funext k
    exact e4 _
  have tb : pTab g2 r = pTab g r := by
    unfold pTab
    rw [e2, e5]
  rw [ar, tb]
  have f0 : ∀ k j, k ≤ 5 → g2 (pTab g r + k) j = g (pTab g r + k) j := fun k j j1 => e1 _ _ (by unfold pTab; omega) (by unfold pTab; omega)
  refine ⟨RTf_eq b1 (fun j _ _ => f0 0 j (by decide)) (fun k j j1 j2 => f0 k j (by omega)), RLg_eq b2 (fun j _ _ => f0 0 j (by decide)) (fun j => f0 5 j (by decide)), b3, fun k hk => ?_⟩
  rw [b4 k hk, e6 k hk]
/-- none is remembered -/
theorem RPs_0 {g : Nat → Nat → Int} (h1 : g 0 16 = 0) (h2 : g 148 6 = 0) (n0 : 0 ≤ g 0 17) (n1 : g 0 17 < 12) : RPs g :=
  ⟨by rw [h1, h2], by omega, by omega, n0, n1, fun r hr => by rw [h2] at hr; omega⟩
theorem RMain_seed {g g2 : Nat → Nat → Int} {b : Int} (h : RMain g) (hd : g 3 5 ≤ 6) (ec : ∀ c j, c < 148 → g2 c j = fu g 16 10 b c j) (em : ∀ c j, 148 ≤ c → ¬ (c = 148 ∧ j = 0) → g2 c j = frow g (tU (g 149) 11 b) c j) : RMain g2 := by
  obtain ⟨a1, a2, a3, a4, a5⟩ := h
  have row : g2 149 = tU (g 149) 11 b := by
    funext k
    rw [em _ _ (by decide) (fun t => absurd t.1 (by decide)), frow_m]
  have hp : ∀ k, gHp k → g2 149 k = g 149 k := fun k hk => by
    rw [row]
    unfold gHp at hk
    rw [tU_ne (by omega)]
  have nr : ∀ c j, c < 148 → c ≠ 16 → g2 c j = g c j := fun c j h1 h2 => by rw [ec c j h1, fu_nc h2]
  have nm : ∀ c j, 148 ≤ c → c ≠ 149 → ¬ (c = 148 ∧ j = 0) → g2 c j = g c j := fun c j h1 h2 h3 => by rw [em c j h1 h3, frow_ne h2]
  refine ⟨fun j hj => ?_, ?_, ?_, ?_, RPs_cg a5 (fun c j h1 h2 => nr c j (by omega) (by omega)) (nr _ _ (by decide) (by decide)) (nr _ _ (by decide) (by decide)) (fun j => nm _ _ (by decide) (by decide) (fun t => absurd t.1 (by decide))) (nm _ _ (by decide) (by decide) (by decide)) hp⟩
  · rw [nr _ _ (by decide) (by decide), nm _ _ (by decide) (by decide) (fun t => absurd t.1 (by decide))]
    exact a1 j hj
  · have q : RHf 3 g2 (g 149) := RHf_eq a2 (fun j _ _ => nr _ _ (by decide) (by decide)) (fun k j k1 k2 => nr _ _ (by omega) (by omega))
    exact RHf_t q (by rw [nr _ _ (by decide) (by decide)]; exact hd) hp
  · rw [row]
    exact RTb_cg (RTb_f (j := 10) (k := 11) (v := b) a3 (by omega)) (fun j _ _ => ec _ _ (by decide)) (fun k j _ _ => ec _ _ (by omega)) (fun _ _ => rfl)
  · rw [row]
    exact RIv_u a4 ⟨by decide, Or.inl (by decide)⟩
end
section
/-! fx: the text of the house keeps the relation -/
theorem RMain_house {T : Int → Int} {E : Int} {us : List (List Int)} {g g1 g2 A : Nat → Nat → Int} (h : RMain g) (hE : 0 ≤ E) (he : pText T E (g 149 3) (g 149 4) = Sum.inr us) (hp0 : 0 ≤ g 149 3) (hp1 : g 149 3 ≤ 8) (hd0 : 0 ≤ g 149 4) (hd1 : g 149 4 ≤ 6)
    (hA : A = apCs T us (cpT (cpH (fUse T E g) 3 29) 16 22)) (x0' : frd g (fu g1 159 0 (g 159 0))) (x1 : g1 0 16 = 0) (x2 : g1 3 6 = g 3 6 + 1) (f1 : ∀ j, 4 ≤ j → j ≤ 9 → j ≠ 6 → g1 3 j = A 29 j) (f2 : ∀ i j, 1 ≤ i → i ≤ 4 → g1 (3 + i) j = A (29 + i) j) (f3 : ∀ j, 5 ≤ j → j ≤ 10 → g1 16 j = A 22 j) (f4 : ∀ i j, 1 ≤ i → i ≤ 5 → g1 (16 + i) j = A (22 + i) j)
    (m0 : frm g1 g2) (m1 : g2 148 6 = 0) (m2 : ∀ j, g2 149 j = fu (apLs T us g1) 149 0 (g1 149 0 + 1) 149 j) : RMain g2 := by
  obtain ⟨a1, a2, a3, a4, a5⟩ := h
  have x0 : ∀ c j, c ≠ 159 → ¬ (3 ≤ c ∧ c ≤ 3 + 4) → ¬ (16 ≤ c ∧ c ≤ 33) → ¬ (c = 1 ∧ j = 1) → ¬ (c = 0 ∧ (j = 18 ∨ j = 16)) → g1 c j = g c j := fun c j h0 h1 h2 h3 h4 => by
    rw [← x0' c j h1 h2 h3 h4, fu_nc h0]
  have em : g1 149 = g 149 := by
    funext j
    exact x0 _ _ (by decide) (by decide) (by decide) (fun t => absurd t.1 (by decide)) (fun t => absurd t.1 (by decide))
  have b0 : RFx 29 22 (cpT (cpH (fUse T E g) 3 29) 16 22) (g1 149) := by
    rw [em]
    refine ⟨RHf_eq a2 (fun j j1 j2 => ?_) (fun i j j1 j2 => ?_), RTf_eq a3.1 (fun j j1 j2 => ?_) (fun i j j1 j2 => ?_), a4⟩
    · rw [cpT_ne (by decide), cpH_f j1 j2, fUse_ne (by decide) (fun t => absurd t.1 (by decide))]
    · rw [cpT_ne (by omega), cpH_a j1 j2 (by decide), fUse_ne (by omega) (by omega)]
    · rw [cpT_f (by omega) j2, cpH_ne (by decide), fUse_ne (by decide) (fun t => absurd t.1 (by decide))]
    · rw [cpT_a j1 (by omega) (by decide), cpH_ne (by omega), fUse_ne (by omega) (by omega)]
  obtain ⟨c1, c2, c3, c4, c5⟩ := pText_relF (gm := g1) hE (by rw [em]; exact he) (by rw [em]; exact hp0) (by rw [em]; exact hp1) (by rw [em]; exact hd0) (by rw [em]; exact hd1) b0
  rw [← hA] at c1 c2 c3 c4
  have l5 : A 22 5 = g 16 5 := by rw [c3, cpT_f (by decide) (by decide), cpH_ne (by decide), fUse_ne (by decide) (fun t => absurd t.1 (by decide))]
  have l6 : A 22 6 = g 16 6 := by rw [c4, cpT_f (by decide) (by decide), cpH_ne (by decide), fUse_ne (by decide) (fun t => absurd t.1 (by decide))]
  have lr : ∀ j, A 27 j = g 21 j := fun j => by
    rw [c2]
    have := cpT_a (g := cpH (fUse T E g) 3 29) (a := 16) (b := 22) (i := 5) (j := j) (by decide) (by decide) (by decide)
    exact this.trans (by rw [cpH_ne (by decide), fUse_ne (by decide) (fun t => absurd t.1 (by decide))])
  have row : g2 149 = tU (apLs T us g1 149) 0 (g1 149 0 + 1) := by
    funext j
    rw [m2]
    unfold fu tU
    by_cases e : j = 0
    · rw [if_pos ⟨rfl, e⟩, if_pos e]
    · rw [if_neg (fun t => e t.2), if_neg e]
  have k : ∀ c j, c < 148 → g2 c j = g1 c j := fun c j hc => m0 c j (by omega) (by omega) (by omega)
  obtain ⟨d1, d2, d3⟩ := c1
  have lg : ∀ j, tLg j → j ≠ 0 → g2 149 j = g 149 j := fun j hj h0 => by
    rw [row, tU_ne h0, c5 j hj, em]
  obtain ⟨q1, q2, q3, q4, q5, q6, q7, q8, q9, q10⟩ := d1
  obtain ⟨s1, s2, s3, s4, s5, s6, s7, s8⟩ := d2
  have kh : ∀ j, 4 ≤ j → j ≤ 9 → j ≠ 6 → g2 3 j = A 29 j := fun j j1 j2 j3 => by rw [k _ _ (by decide)]; exact f1 j j1 j2 j3
  have ka : ∀ i j, 1 ≤ i → i ≤ 4 → g2 (3 + i) j = A (29 + i) j := fun i j j1 j2 => by rw [k _ _ (by omega)]; exact f2 i j j1 j2
  have kt : ∀ j, 5 ≤ j → j ≤ 10 → g2 16 j = A 22 j := fun j j1 j2 => by rw [k _ _ (by decide)]; exact f3 j j1 j2
  have kb : ∀ i j, 1 ≤ i → i ≤ 5 → g2 (16 + i) j = A (22 + i) j := fun i j j1 j2 => by rw [k _ _ (by omega)]; exact f4 i j j1 j2
  refine ⟨fun j hj => ?_, ?_, ⟨?_, ?_⟩, ?_, ?_⟩
  · rw [k _ _ (by decide), m0 153 j (by decide) (by decide) (fun t => absurd t.1 (by decide)), x0 _ _ (by decide) (by decide) (by decide) (fun t => absurd t.1 (by decide)) (fun t => absurd t.1 (by decide)), x0 153 j (by decide) (by decide) (by decide) (fun t => absurd t.1 (by decide)) (fun t => absurd t.1 (by decide))]
    exact a1 j hj
  · rw [row]
    refine ⟨?_, ?_, ?_, ?_, ?_, ?_, fun p hp => ?_, fun p hp => ?_, fun j hj => ?_, fun j hj => ?_⟩
    · rw [kh _ (by decide) (by decide) (by decide), tU_ne (by decide)]; exact q1
    · rw [kh _ (by decide) (by decide) (by decide), tU_ne (by decide)]; exact q2
    · rw [k _ _ (by decide), tU_eq, x2, em, a2.2.2.1]
    · rw [kh _ (by decide) (by decide) (by decide), tU_ne (by decide)]; exact q4
    · rw [kh _ (by decide) (by decide) (by decide), tU_ne (by decide)]; exact q5
    · rw [kh _ (by decide) (by decide) (by decide), tU_ne (by decide)]; exact q6
    · rw [ka _ _ (by decide) (by decide), tU_ne (by omega)]; exact q7 p hp
    · rw [ka _ _ (by decide) (by decide), tU_ne (by omega)]; exact q8 p hp
    · rw [kh _ (by decide) (by decide) (by decide)] at hj
      rw [ka _ _ (by decide) (by decide), tU_ne (by omega)]; exact q9 j hj
    · rw [ka _ _ (by decide) (by decide), tU_ne (by omega)]; exact q10 j hj
  · rw [row]
    refine ⟨fun p hp => ?_, fun p hp => ?_, fun p hp => ?_, fun p hp => ?_, fun p hp => ?_, ?_, ?_, ?_⟩
    · rw [kb _ _ (by decide) (by decide), tU_ne (by omega)]; exact s1 p hp
    · rw [kb _ _ (by decide) (by decide), tU_ne (by omega)]; exact s2 p hp
    · rw [kb _ _ (by decide) (by decide), tU_ne (by omega)]; exact s3 p hp
    · rw [kb _ _ (by decide) (by decide), tU_ne (by omega)]; exact s4 p hp
    · rw [kt _ (by decide) (by decide), tU_ne (by omega)]; exact s5 p hp
    · rw [kt _ (by decide) (by decide), tU_ne (by decide)]; exact s6
    · rw [kt _ (by decide) (by decide), tU_ne (by decide)]; exact s7
    · rw [kt _ (by decide) (by decide), tU_ne (by decide)]; exact s8
  · refine RLg_cg a3.2 (fun j j1 j2 => ?_) (fun j => ?_) (lg 10 (Or.inl rfl) (by decide)) (fun j j1 j2 => lg j (Or.inr (Or.inr ⟨j1, j2⟩)) (by omega))
    · rw [kt j j1 (by omega)]
      rcases (by omega : j = 5 ∨ j = 6) with rfl | rfl
      · exact l5
      · exact l6
    · have := kb 5 j (by decide) (by decide)
      exact this.trans (lr j)
  · rw [row]
    exact RIv_u d3 ⟨by decide, Or.inl (by decide)⟩
  · refine RPs_0 (by rw [k _ _ (by decide)]; exact x1) m1 ?_ ?_
    · rw [k _ _ (by decide), x0 _ _ (by decide) (by decide) (by decide) (by decide) (by decide)]; exact a5.2.2.2.1
    · rw [k _ _ (by decide), x0 _ _ (by decide) (by decide) (by decide) (by decide) (by decide)]; exact a5.2.2.2.2.1
end
