/-! fx: a place of a table and of its row anew -/
/-- a table with its log -/
def RTb (b : Nat) (g : Nat → Nat → Int) (t : Nat → Int) : Prop := RTf b g t ∧ RLg b g t
/-- the same table, the same row -/
theorem RTb_cg {b b' : Nat} {g g' : Nat → Nat → Int} {t t' : Nat → Int} (h : RTb b g t) (e1 : ∀ j, 5 ≤ j → j ≤ 10 → g' b' j = g b j) (e2 : ∀ k j, 1 ≤ k → k ≤ 5 → g' (b' + k) j = g (b + k) j) (e : ∀ k, k < 364 → t' k = t k) : RTb b' g' t' :=
  ⟨RTf_t (RTf_eq h.1 (fun j j1 j2 => e1 j (by omega) j2) (fun k j j1 j2 => e2 k j j1 (by omega))) e, RLg_t (RLg_eq h.2 (fun j j1 j2 => e1 j j1 (by omega)) (fun j => e2 5 j (by decide) (by decide))) e⟩
theorem RLg_cg {b : Nat} {g g' : Nat → Nat → Int} {t t' : Nat → Int} (h : RLg b g t) (e1 : ∀ j, 5 ≤ j → j ≤ 6 → g' b j = g b j) (e2 : ∀ j, g' (b + 5) j = g (b + 5) j) (e0 : t' 10 = t 10) (e : ∀ k, 124 ≤ k → k < 364 → t' k = t k) : RLg b g' t' := by
  obtain ⟨a1, a2, a3, a4, a5, a6⟩ := h
  have e5 := e1 5 (by decide) (by decide)
  have e6 := e1 6 (by decide) (by decide)
  refine ⟨by rw [e5]; exact a1, by rw [e5]; exact a2, by rw [e6, e0]; exact a3, by rw [e0]; exact a4, by rw [e0]; exact a5, fun a ha => ?_⟩
  rw [e0] at ha
  rw [e5, e2, e _ (by omega) (by omega), e _ (by omega) (by omega), e _ (by omega) (by omega), e _ (by omega) (by omega)]
  exact a6 a ha
/-- places, votes, promises, cold nights -/
theorem RTb_a {b : Nat} {g : Nat → Nat → Int} {t : Nat → Int} {p i w : Nat} {v : Int} (h : RTb b g t) (hp : p < 8) (hi : (i = 1 ∧ w = 0) ∨ (i = 2 ∧ w = 1) ∨ (i = 3 ∧ w = 4) ∨ (i = 4 ∧ w = 6)) : RTb b (fu g (b + i) p v) (tU t (12 + 7 * p + w) v) := by
  refine ⟨?_, RLg_cg h.2 (fun j _ _ => fu_nc (by omega)) (fun j => fu_nc (by omega)) (tU_ne (by omega)) (fun k k1 k2 => tU_ne (by omega))⟩
  obtain ⟨a1, a2, a3, a4, a5, a6, a7, a8⟩ := h.1
  have one : ∀ (k u : Nat), (k = 1 ∧ u = 0) ∨ (k = 2 ∧ u = 1) ∨ (k = 3 ∧ u = 4) ∨ (k = 4 ∧ u = 6) → (∀ q : Nat, q < 8 → g (b + k) q = t (12 + 7 * q + u)) → ∀ q : Nat, q < 8 → fu g (b + i) p v (b + k) q = tU t (12 + 7 * p + w) v (12 + 7 * q + u) := fun k u hk e q hq => by
    by_cases c : k = i ∧ q = p
    · obtain ⟨rfl, rfl⟩ := c
      have : u = w := by omega
      subst this
      rw [fu_eq, tU_eq]
    · rw [fu_ne (by omega), tU_ne (by omega)]
      exact e q hq
  refine ⟨fun q hq => one 1 0 (by omega) a1 q hq, fun q hq => ?_, fun q hq => ?_, fun q hq => ?_, fun q hq => ?_, ?_, ?_, ?_⟩
  · rw [show 13 + 7 * q = 12 + 7 * q + 1 by omega]
    exact one 2 1 (by omega) (fun q hq => by rw [show 12 + 7 * q + 1 = 13 + 7 * q by omega]; exact a2 q hq) q hq
  · rw [show 16 + 7 * q = 12 + 7 * q + 4 by omega]
    exact one 3 4 (by omega) (fun q hq => by rw [show 12 + 7 * q + 4 = 16 + 7 * q by omega]; exact a3 q hq) q hq
  · rw [show 18 + 7 * q = 12 + 7 * q + 6 by omega]
    exact one 4 6 (by omega) (fun q hq => by rw [show 12 + 7 * q + 6 = 18 + 7 * q by omega]; exact a4 q hq) q hq
  · rw [fu_nc (by omega), tU_ne (by omega)]; exact a5 q hq
  · rw [fu_nc (by omega), tU_ne (by omega)]; exact a6
  · rw [fu_nc (by omega), tU_ne (by omega)]; exact a7
  · rw [fu_nc (by omega), tU_ne (by omega)]; exact a8
/-- iron, the night, the draws -/
theorem RTb_f {b : Nat} {g : Nat → Nat → Int} {t : Nat → Int} {j k : Nat} {v : Int} (h : RTb b g t) (hi : (j = 8 ∧ k = 8) ∨ (j = 9 ∧ k = 9) ∨ (j = 10 ∧ k = 11)) : RTb b (fu g b j v) (tU t k v) := by
  refine ⟨?_, RLg_cg h.2 (fun j' _ _ => fu_nj (by omega)) (fun j' => fu_nc (by omega)) (tU_ne (by omega)) (fun k' k1 k2 => tU_ne (by omega))⟩
  obtain ⟨a1, a2, a3, a4, a5, a6, a7, a8⟩ := h.1
  have one : ∀ (j' k' : Nat), (j' = 8 ∧ k' = 8) ∨ (j' = 9 ∧ k' = 9) ∨ (j' = 10 ∧ k' = 11) → g b j' = t k' → fu g b j v b j' = tU t k v k' := fun j' k' hj e => by
    by_cases c : j' = j
    · subst c
      have : k' = k := by omega
      subst this
      rw [fu_eq, tU_eq]
    · rw [fu_nj c, tU_ne (by omega)]
      exact e
  refine ⟨fun q hq => ?_, fun q hq => ?_, fun q hq => ?_, fun q hq => ?_, fun q hq => ?_, one 8 8 (by omega) a6, one 9 9 (by omega) a7, one 10 11 (by omega) a8⟩
  · rw [fu_nc (by omega), tU_ne (by omega)]; exact a1 q hq
  · rw [fu_nc (by omega), tU_ne (by omega)]; exact a2 q hq
  · rw [fu_nc (by omega), tU_ne (by omega)]; exact a3 q hq
  · rw [fu_nc (by omega), tU_ne (by omega)]; exact a4 q hq
  · rw [fu_nj (by omega), tU_ne (by omega)]; exact a5 q hq
/-- who is held to be dead -/
theorem RTb_d {b : Nat} {g : Nat → Nat → Int} {t : Nat → Int} {p : Nat} {v z : Int} (h : RTb b g t) (hp : p < 8) (hv : ∀ q : Nat, q < 8 → fbt v q = if q = p then z else fbt (g b 7) q) : RTb b (fu g b 7 v) (tU t (12 + 7 * p + 5) z) := by
  refine ⟨?_, RLg_cg h.2 (fun j' _ _ => fu_nj (by omega)) (fun j' => fu_nc (by omega)) (tU_ne (by omega)) (fun k' k1 k2 => tU_ne (by omega))⟩
  obtain ⟨a1, a2, a3, a4, a5, a6, a7, a8⟩ := h.1
  refine ⟨fun q hq => ?_, fun q hq => ?_, fun q hq => ?_, fun q hq => ?_, fun q hq => ?_, ?_, ?_, ?_⟩
  · rw [fu_nc (by omega), tU_ne (by omega)]; exact a1 q hq
  · rw [fu_nc (by omega), tU_ne (by omega)]; exact a2 q hq
  · rw [fu_nc (by omega), tU_ne (by omega)]; exact a3 q hq
  · rw [fu_nc (by omega), tU_ne (by omega)]; exact a4 q hq
  · rw [fu_eq, hv q hq]
    by_cases c : q = p
    · subst c
      rw [if_pos rfl, show 17 + 7 * q = 12 + 7 * q + 5 by omega, tU_eq]
    · rw [if_neg c, tU_ne (by omega)]
      exact a5 q hq
  · rw [fu_nj (by omega), tU_ne (by omega)]; exact a6
  · rw [fu_nj (by omega), tU_ne (by omega)]; exact a7
  · rw [fu_nj (by omega), tU_ne (by omega)]; exact a8
/-- a row of the log -/
theorem RTb_note {b : Nat} {g : Nat → Nat → Int} {t : Nat → Int} {p k w : Int} (h : RTb b g t) (n0 : 0 ≤ t 9) (n1 : t 9 ≤ 9999) (p0 : 0 ≤ p) (p1 : p ≤ 7) (k0 : 0 ≤ k) (k1 : k ≤ 3) (w0 : 0 ≤ w) (w1 : w ≤ 7) : RTb b (cNote b g p k w) (tNote t p k w) := by
  refine ⟨?_, RLg_note h.2 h.1.2.2.2.2.2.2.1 n0 n1 p0 p1 k0 k1 w0 w1⟩
  obtain ⟨a1, a2, a3, a4, a5, a6, a7, a8⟩ := h.1
  have tn : ∀ j, j < 124 → j ≠ 10 → tNote t p k w j = t j := fun j h1 h2 => by
    unfold tNote
    rw [if_neg h2, if_neg (by omega), if_neg (by omega), if_neg (by omega), if_neg (by omega), if_neg (by omega)]
  have cn : ∀ c j, ¬ (c = b ∧ (j = 5 ∨ j = 6)) → c ≠ b + 5 → cNote b g p k w c j = g c j := fun c j h1 h2 => cNote_ne h1 h2
  refine ⟨fun q hq => ?_, fun q hq => ?_, fun q hq => ?_, fun q hq => ?_, fun q hq => ?_, ?_, ?_, ?_⟩
  · rw [cn _ _ (by omega) (by omega), tn _ (by omega) (by omega)]; exact a1 q hq
  · rw [cn _ _ (by omega) (by omega), tn _ (by omega) (by omega)]; exact a2 q hq
  · rw [cn _ _ (by omega) (by omega), tn _ (by omega) (by omega)]; exact a3 q hq
  · rw [cn _ _ (by omega) (by omega), tn _ (by omega) (by omega)]; exact a4 q hq
  · rw [cn _ _ (by omega) (by omega), tn _ (by omega) (by omega)]; exact a5 q hq
  · rw [cn _ _ (by omega) (by omega), tn _ (by omega) (by omega)]; exact a6
  · rw [cn _ _ (by omega) (by omega), tn _ (by omega) (by omega)]; exact a7
  · rw [cn _ _ (by omega) (by omega), tn _ (by omega) (by omega)]; exact a8
/-- what holds of a row by itself: a place of no weight to it -/
theorem RIv_u {t : Nat → Int} {k : Nat} {v : Int} (h : RIv t) (hk : k ≠ 3 ∧ (k < 12 ∨ 68 ≤ k ∨ ((k - 12) % 7 ≠ 0 ∧ (k - 12) % 7 ≠ 5 ∧ (k - 12) % 7 ≠ 6))) : RIv (tU t k v) := by
  obtain ⟨a1, a2, a3⟩ := h
  refine ⟨fun p hp => ?_, fun p hp => ?_, fun p hp => ?_⟩
  · rw [tU_ne (by omega), tU_ne (by omega)]; exact a1 p hp
  · rw [tU_ne (by omega), tU_ne (by omega)]; exact a2 p hp
  · rw [tU_ne (by omega), tU_ne (by omega)]; exact a3 p hp
theorem RIv_note {t : Nat → Int} {p k w : Int} (h : RIv t) : RIv (tNote t p k w) := by
  have tn : ∀ j, j < 124 → j ≠ 10 → tNote t p k w j = t j := fun j h1 h2 => by
    unfold tNote
    rw [if_neg h2, if_neg (by omega), if_neg (by omega), if_neg (by omega), if_neg (by omega), if_neg (by omega)]
  obtain ⟨a1, a2, a3⟩ := h
  refine ⟨fun p hp => ?_, fun p hp => ?_, fun p hp => ?_⟩
  · rw [tn _ (by omega) (by omega), tn _ (by omega) (by omega)]; exact a1 p hp
  · rw [tn _ (by omega) (by omega), tn _ (by omega) (by omega)]; exact a2 p hp
  · rw [tn 3 (by omega) (by omega), tn _ (by omega) (by omega)]; exact a3 p hp
