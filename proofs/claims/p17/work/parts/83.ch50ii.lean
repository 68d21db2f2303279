/-! fx: a night: the reference -/
/-- what the walks of a night need of a row -/
def NB (t : Nat → Int) : Prop := (0 ≤ t 3 ∧ t 3 ≤ 8) ∧ (0 ≤ t 4 ∧ t 4 ≤ 6) ∧ (1 ≤ t 7 ∧ t 7 ≤ 99) ∧ (0 ≤ t 9 ∧ t 9 ≤ 9999) ∧ (0 ≤ t 10 ∧ t 10 ≤ 60) ∧ (∀ p : Nat, p < 8 → -1 ≤ t (12 + 7 * p) ∧ t (12 + 7 * p) ≤ 7) ∧ (∀ p : Nat, p < 8 → 0 ≤ t (18 + 7 * p) ∧ t (18 + 7 * p) ≤ 99) ∧ (∀ j : Nat, j < 8 → 0 ≤ t (116 + j) ∧ t (116 + j) ≤ 255) ∧ (∀ j : Nat, (j : Int) < 8 * t 4 → 0 ≤ t (68 + j) ∧ t (68 + j) ≤ 9)
/-- what a night leaves as it is -/
def NF (t t' : Nat → Int) : Prop := ∀ k, ¬ (k = 9 ∨ k = 10 ∨ k = 11 ∨ (12 ≤ k ∧ k < 68 ∧ ((k - 12) % 7 = 0 ∨ (k - 12) % 7 = 6)) ∨ (124 ≤ k ∧ k < 364)) → t' k = t k
theorem NF.rf {t : Nat → Int} : NF t t := fun _ _ => rfl
theorem NF.tr {t t1 t2 : Nat → Int} (h : NF t t1) (h2 : NF t1 t2) : NF t t2 := fun k hk => by rw [h2 k hk, h k hk]
theorem NF.u {t : Nat → Int} {k : Nat} {z : Int} (hk : k = 9 ∨ k = 10 ∨ k = 11 ∨ (12 ≤ k ∧ k < 68 ∧ ((k - 12) % 7 = 0 ∨ (k - 12) % 7 = 6))) : NF t (tU t k z) := fun j hj => tU_ne (by omega)
theorem NF.nt {t : Nat → Int} {p k w : Int} : NF t (tNote t p k w) := fun j hj => by
  unfold tNote
  rw [if_neg (by omega), if_neg (by omega), if_neg (by omega), if_neg (by omega), if_neg (by omega), if_neg (by omega)]
theorem LwR.nf {t t' : Nat → Int} {segs : List (List Int × Int × Int)} (h : LwR t segs) (hf : NF t t') : LwR t' segs := by
  obtain ⟨h1, h2, h3, h4⟩ := h
  have e1 := hf 1 (by decide)
  have e2 := hf 2 (by decide)
  have ex : ∀ k : Nat, k < 400 → t' (364 + k) = t (364 + k) := fun k hk => hf _ (by omega)
  refine ⟨fun k hk => by rw [ex k hk]; exact h1 k hk, by rw [e2]; exact h2, ?_, h4⟩
  rw [e1, e2]
  rcases h3 with h3 | ⟨a1, a2⟩
  · exact Or.inl h3
  · refine Or.inr ⟨?_, a2⟩
    rw [← a1]
    refine lawR_n h2.1 (fun k hk => ?_) (tTx_0 _) (tTx_0 _)
    unfold tTx
    exact ex _ (by omega)
theorem tU_tU (t : Nat → Int) (k : Nat) (y z : Int) : tU (tU t k y) k z = tU t k z := by
  funext j
  unfold tU
  split <;> rfl
/-- one goes, or stays -/
noncomputable def wanT (t : Nat → Int) (p : Nat) : Nat → Int :=
  if fop 10 (dwS (nxS (t 11))) 100 < t 6 then
    (if t (116 + (t (12 + 7 * p)).toNat) = 0 then tU t 11 (nxS (t 11)) else tU (tU t 11 (nxS (nxS (t 11)))) (12 + 7 * p + 0) (pKt (t (116 + (t (12 + 7 * p)).toNat)) (fop 10 (dwS (nxS (nxS (t 11)))) (pB (t (116 + (t (12 + 7 * p)).toNat)) 31))))
  else tU t 11 (nxS (t 11))
noncomputable def wan1 (t : Nat → Int) (p : Nat) : Nat → Int := if t (12 + 7 * p) ≠ -1 ∧ t (17 + 7 * p) ≠ 1 then wanT t p else t
noncomputable def wanL : Nat → Nat → (Nat → Int) → Nat → Int
  | 0, _, t => t
  | l + 1, p, t => wanL l (p + 1) (wan1 t p)
noncomputable def eaT (segs : List (List Int × Int × Int)) (d : Int) (t : Nat → Int) (p : Nat) : Nat → Int :=
  if eV t segs p (t (12 + 7 * p)) d = 0 then
    (if t (18 + 7 * p) < t 7 ∧ (if 99 < t (18 + 7 * p) + 1 then 99 else t (18 + 7 * p) + 1) = t 7 then tNote (tU t (12 + 7 * p + 6) (if 99 < t (18 + 7 * p) + 1 then 99 else t (18 + 7 * p) + 1)) p 3 (t (12 + 7 * p)) else tU t (12 + 7 * p + 6) (if 99 < t (18 + 7 * p) + 1 then 99 else t (18 + 7 * p) + 1))
  else tU t (12 + 7 * p + 6) 0
noncomputable def ea1 (segs : List (List Int × Int × Int)) (d : Int) (t : Nat → Int) (p : Nat) : Nat → Int := if t (12 + 7 * p) ≠ -1 ∧ t (17 + 7 * p) ≠ 1 then eaT segs d t p else t
noncomputable def eaL (segs : List (List Int × Int × Int)) (d : Int) : Nat → Nat → (Nat → Int) → Nat → Int
  | 0, _, t => t
  | l + 1, p, t => eaL segs d l (p + 1) (ea1 segs d t p)
noncomputable def eaN (segs : List (List Int × Int × Int)) (d : Int) : Nat → Nat → (Nat → Int) → Int → Int
  | 0, _, _, n => n
  | l + 1, p, t, n => eaN segs d l (p + 1) (ea1 segs d t p) (if (t (12 + 7 * p) ≠ -1 ∧ t (17 + 7 * p) ≠ 1) ∧ eV t segs p (t (12 + 7 * p)) d = 0 then n + 1 else n)
noncomputable def niW (dr : Bool) (t : Nat → Int) : Nat → Int := cond dr (wanL (t 3).toNat 0 t) t
noncomputable def niE (segs : List (List Int × Int × Int)) (d : Int) (t : Nat → Int) : Nat → Int := if d = -1 then t else eaL segs d (t 3).toNat 0 t
noncomputable def niN (segs : List (List Int × Int × Int)) (d : Int) (t : Nat → Int) : Int := if d = -1 then 0 else eaN segs d (t 3).toNat 0 t 0
/-- a night of a dish -/
noncomputable def niT (segs : List (List Int × Int × Int)) (d : Int) (dr : Bool) (t : Nat → Int) : Nat → Int := tU (niE segs d (niW dr t)) 9 (if 9999 < niE segs d (niW dr t) 9 + 1 then 9999 else niE segs d (niW dr t) 9 + 1)
def dsT (t : Nat → Int) : Int := if t 4 = 0 then -1 else t 9 % t 4
noncomputable def goL (segs : List (List Int × Int × Int)) (dr : Bool) : Nat → (Nat → Int) → Nat → Int
  | 0, t => t
  | n + 1, t => goL segs dr n (niT segs (dsT t) dr t)
noncomputable def goN (segs : List (List Int × Int × Int)) (dr : Bool) : Nat → (Nat → Int) → Int → Int
  | 0, _, a => a
  | n + 1, t, a => goN segs dr n (niT segs (dsT t) dr t) (a + niN segs (dsT t) (niW dr t))
/-- a row that a night may begin with -/
def NI (t : Nat → Int) : Prop := NB t ∧ RIv t
theorem wanT_ok {t : Nat → Int} {p : Nat} (h : NI t) (hp : p < 8) (ha : t (12 + 7 * p) ≠ -1) : NI (wanT t p) ∧ NF t (wanT t p) := by
  obtain ⟨⟨b3, b4, b7, b9, b10, bp, bc, br, be⟩, i1, i2, i3⟩ := h
  have s : NI (tU t 11 (nxS (t 11))) ∧ NF t (tU t 11 (nxS (t 11))) := by
    refine ⟨⟨⟨b3, b4, b7, b9, b10, fun q hq => ?_, fun q hq => ?_, fun j hj => ?_, fun j hj => ?_⟩, RIv_u ⟨i1, i2, i3⟩ ⟨by decide, Or.inl (by decide)⟩⟩, NF.u (by decide)⟩
    · rw [tU_ne (by omega)]; exact bp q hq
    · rw [tU_ne (by omega)]; exact bc q hq
    · rw [tU_ne (by omega)]; exact br j hj
    · rw [tU_ne (by omega)]; exact be j hj
  have bpp := bp p hp
  unfold wanT
  by_cases c1 : fop 10 (dwS (nxS (t 11))) 100 < t 6
  · rw [if_pos c1]
    by_cases c2 : t (116 + (t (12 + 7 * p)).toNat) = 0
    · rw [if_pos c2]; exact s
    · rw [if_neg c2]
      have rb := br (t (12 + 7 * p)).toNat (by omega)
      have hb := pB_b rb.1 rb.2
      have dw := dwS_b (nxS (nxS (t 11)))
      have n1 := hb.2.2.1 c2
      have rm := fop_rm_b (d := dwS (nxS (nxS (t 11)))) (n := pB (t (116 + (t (12 + 7 * p)).toNat)) 31) dw.1 (by omega) (by omega) (by omega)
      obtain ⟨-, -, -, k0, k1⟩ := pM_ok rb.1 rb.2 rm.1 rm.2
      generalize pKt (t (116 + (t (12 + 7 * p)).toNat)) (fop 10 (dwS (nxS (nxS (t 11)))) (pB (t (116 + (t (12 + 7 * p)).toNat)) 31)) = z at k0 k1 ⊢
      generalize nxS (nxS (t 11)) = y
      have ne : ∀ k, k ≠ 11 → k ≠ 12 + 7 * p + 0 → tU (tU t 11 y) (12 + 7 * p + 0) z k = t k := fun k h1 h2 => by rw [tU_ne h2, tU_ne h1]
      have nz : tU (tU t 11 y) (12 + 7 * p + 0) z (12 + 7 * p) = z := tU_eq _ _ _
      refine ⟨⟨⟨by rw [ne _ (by decide) (by omega)]; exact b3, by rw [ne _ (by decide) (by omega)]; exact b4, by rw [ne _ (by decide) (by omega)]; exact b7, by rw [ne _ (by decide) (by omega)]; exact b9, by rw [ne _ (by decide) (by omega)]; exact b10, fun q hq => ?_, fun q hq => ?_, fun j hj => ?_, fun j hj => ?_⟩, fun q hq => ?_, fun q hq => ?_, fun q hq => ?_⟩, (NF.u (by decide)).tr (NF.u (by omega))⟩
      · by_cases e : q = p
        · subst e; rw [nz]; omega
        · rw [ne _ (by omega) (by omega)]; exact bp q hq
      · rw [ne _ (by omega) (by omega)]; exact bc q hq
      · rw [ne _ (by omega) (by omega)]; exact br j hj
      · rw [ne 4 (by decide) (by omega)] at hj
        rw [ne _ (by omega) (by omega)]; exact be j hj
      · by_cases e : q = p
        · subst e; rw [nz]; intro u; exfalso; omega
        · rw [ne _ (by omega) (by omega), ne _ (by omega) (by omega)]; exact i1 q hq
      · by_cases e : q = p
        · subst e; rw [nz]; intro _; omega
        · rw [ne _ (by omega) (by omega), ne _ (by omega) (by omega)]; exact i2 q hq
      · rw [ne _ (by decide) (by omega), ne _ (by omega) (by omega)]; exact i3 q hq
  · rw [if_neg c1]; exact s
theorem wan1_ok {t : Nat → Int} {p : Nat} (h : NI t) (hp : p < 8) : NI (wan1 t p) ∧ NF t (wan1 t p) := by
  unfold wan1
  by_cases c : t (12 + 7 * p) ≠ -1 ∧ t (17 + 7 * p) ≠ 1
  · rw [if_pos c]; exact wanT_ok h hp c.1
  · rw [if_neg c]; exact ⟨h, NF.rf⟩
theorem cold_ok {t : Nat → Int} {p : Nat} {v : Int} (h : NI t) (hp : p < 8) (ha : t (12 + 7 * p) ≠ -1) (v0 : 0 ≤ v) (v1 : v ≤ 99) : NI (tU t (12 + 7 * p + 6) v) ∧ NF t (tU t (12 + 7 * p + 6) v) := by
  obtain ⟨⟨b3, b4, b7, b9, b10, bp, bc, br, be⟩, i1, i2, i3⟩ := h
  refine ⟨⟨⟨by rw [tU_ne (by omega)]; exact b3, by rw [tU_ne (by omega)]; exact b4, by rw [tU_ne (by omega)]; exact b7, by rw [tU_ne (by omega)]; exact b9, by rw [tU_ne (by omega)]; exact b10, fun q hq => ?_, fun q hq => ?_, fun j hj => ?_, fun j hj => ?_⟩, fun q hq => ?_, fun q hq => ?_, fun q hq => ?_⟩, NF.u (by omega)⟩
  · rw [tU_ne (by omega)]; exact bp q hq
  · by_cases e : q = p
    · subst e; rw [show 18 + 7 * q = 12 + 7 * q + 6 by omega, tU_eq]; exact ⟨v0, v1⟩
    · rw [tU_ne (by omega)]; exact bc q hq
  · rw [tU_ne (by omega)]; exact br j hj
  · rw [tU_ne (by omega)] at hj
    rw [tU_ne (by omega)]; exact be j hj
  · by_cases e : q = p
    · subst e; rw [tU_ne (by omega)]; intro u; exact absurd u ha
    · rw [tU_ne (by omega), tU_ne (by omega)]; exact i1 q hq
  · rw [tU_ne (by omega), tU_ne (by omega)]; exact i2 q hq
  · rw [tU_ne (by omega), tU_ne (by omega)]; exact i3 q hq
theorem note_ok {t : Nat → Int} {p k w : Int} (h : NI t) : NI (tNote t p k w) := by
  obtain ⟨⟨b3, b4, b7, b9, b10, bp, bc, br, be⟩, i⟩ := h
  have tn : ∀ j, j < 124 → j ≠ 10 → tNote t p k w j = t j := fun j h1 h2 => by
    unfold tNote
    rw [if_neg h2, if_neg (by omega), if_neg (by omega), if_neg (by omega), if_neg (by omega), if_neg (by omega)]
  have t10 : tNote t p k w 10 = (if 60 < t 10 + 1 then 60 else t 10 + 1) := if_pos rfl
  refine ⟨⟨by rw [tn _ (by decide) (by decide)]; exact b3, by rw [tn _ (by decide) (by decide)]; exact b4, by rw [tn _ (by decide) (by decide)]; exact b7, by rw [tn _ (by decide) (by decide)]; exact b9, by rw [t10]; split <;> omega, fun q hq => ?_, fun q hq => ?_, fun j hj => ?_, fun j hj => ?_⟩, RIv_note i⟩
  · rw [tn _ (by omega) (by omega)]; exact bp q hq
  · rw [tn _ (by omega) (by omega)]; exact bc q hq
  · rw [tn _ (by omega) (by omega)]; exact br j hj
  · rw [tn 4 (by decide) (by decide)] at hj
    rw [tn _ (by omega) (by omega)]; exact be j hj
theorem eaT_ok {segs : List (List Int × Int × Int)} {d : Int} {t : Nat → Int} {p : Nat} (h : NI t) (hp : p < 8) (ha : t (12 + 7 * p) ≠ -1) : NI (eaT segs d t p) ∧ NF t (eaT segs d t p) := by
  have bc := h.1.2.2.2.2.2.2.1 p hp
  unfold eaT
  by_cases c1 : eV t segs p (t (12 + 7 * p)) d = 0
  · rw [if_pos c1]
    generalize hv : (if 99 < t (18 + 7 * p) + 1 then 99 else t (18 + 7 * p) + 1) = v
    have hv2 : 0 ≤ v ∧ v ≤ 99 := by rw [← hv]; split <;> omega
    have k := cold_ok (v := v) h hp ha hv2.1 hv2.2
    by_cases c2 : t (18 + 7 * p) < t 7 ∧ v = t 7
    · rw [if_pos c2]
      exact ⟨note_ok k.1, k.2.tr NF.nt⟩
    · rw [if_neg c2]; exact k
  · rw [if_neg c1]
    exact cold_ok h hp ha (by decide) (by decide)
theorem ea1_ok {segs : List (List Int × Int × Int)} {d : Int} {t : Nat → Int} {p : Nat} (h : NI t) (hp : p < 8) : NI (ea1 segs d t p) ∧ NF t (ea1 segs d t p) := by
  unfold ea1
  by_cases c : t (12 + 7 * p) ≠ -1 ∧ t (17 + 7 * p) ≠ 1
  · rw [if_pos c]; exact eaT_ok h hp c.1
  · rw [if_neg c]; exact ⟨h, NF.rf⟩
theorem wanL_ok : ∀ (l p : Nat) (t : Nat → Int), NI t → p + l ≤ 8 → NI (wanL l p t) ∧ NF t (wanL l p t)
  | 0, _, _, h, _ => ⟨h, NF.rf⟩
  | l + 1, p, t, h, hl => by
    have a := wan1_ok (p := p) h (by omega)
    have b := wanL_ok l (p + 1) _ a.1 (by omega)
    exact ⟨b.1, a.2.tr b.2⟩
theorem eaL_ok {segs : List (List Int × Int × Int)} {d : Int} : ∀ (l p : Nat) (t : Nat → Int), NI t → p + l ≤ 8 → NI (eaL segs d l p t) ∧ NF t (eaL segs d l p t)
  | 0, _, _, h, _ => ⟨h, NF.rf⟩
  | l + 1, p, t, h, hl => by
    have a := ea1_ok (segs := segs) (d := d) (p := p) h (by omega)
    have b := eaL_ok (segs := segs) (d := d) l (p + 1) _ a.1 (by omega)
    exact ⟨b.1, a.2.tr b.2⟩
theorem eaN_b {segs : List (List Int × Int × Int)} {d : Int} : ∀ (l p : Nat) (t : Nat → Int) (n : Int), n ≤ eaN segs d l p t n ∧ eaN segs d l p t n ≤ n + l
  | 0, _, _, n => ⟨Int.le_refl n, by show n ≤ n + 0; omega⟩
  | l + 1, p, t, n => by
    have h := eaN_b (segs := segs) (d := d) l (p + 1) (ea1 segs d t p) (if (t (12 + 7 * p) ≠ -1 ∧ t (17 + 7 * p) ≠ 1) ∧ eV t segs p (t (12 + 7 * p)) d = 0 then n + 1 else n)
    have e : eaN segs d (l + 1) p t n = eaN segs d l (p + 1) (ea1 segs d t p) (if (t (12 + 7 * p) ≠ -1 ∧ t (17 + 7 * p) ≠ 1) ∧ eV t segs p (t (12 + 7 * p)) d = 0 then n + 1 else n) := rfl
    rw [e]
    have hx : (if (t (12 + 7 * p) ≠ -1 ∧ t (17 + 7 * p) ≠ 1) ∧ eV t segs p (t (12 + 7 * p)) d = 0 then n + 1 else n) = n + 1 ∨ (if (t (12 + 7 * p) ≠ -1 ∧ t (17 + 7 * p) ≠ 1) ∧ eV t segs p (t (12 + 7 * p)) d = 0 then n + 1 else n) = n := by
      split
      · exact Or.inl rfl
      · exact Or.inr rfl
    generalize (if (t (12 + 7 * p) ≠ -1 ∧ t (17 + 7 * p) ≠ 1) ∧ eV t segs p (t (12 + 7 * p)) d = 0 then n + 1 else n) = z at h hx ⊢
    omega
theorem niW_ok {dr : Bool} {t : Nat → Int} (h : NI t) : NI (niW dr t) ∧ NF t (niW dr t) := by
  unfold niW
  cases dr
  · exact ⟨h, NF.rf⟩
  · have := h.1.1
    exact wanL_ok _ _ _ h (by omega)
theorem niE_ok {segs : List (List Int × Int × Int)} {d : Int} {t : Nat → Int} (h : NI t) : NI (niE segs d t) ∧ NF t (niE segs d t) := by
  unfold niE
  split
  · exact ⟨h, NF.rf⟩
  · have := h.1.1
    exact eaL_ok _ _ _ h (by omega)
theorem niN_b {segs : List (List Int × Int × Int)} {d : Int} {t : Nat → Int} (h : NI t) : 0 ≤ niN segs d t ∧ niN segs d t ≤ 8 := by
  unfold niN
  split
  · omega
  · have := h.1.1
    have := eaN_b (segs := segs) (d := d) (t 3).toNat 0 t 0
    omega
theorem ni9_ok {t : Nat → Int} {v : Int} (h : NI t) (v0 : 0 ≤ v) (v1 : v ≤ 9999) : NI (tU t 9 v) ∧ NF t (tU t 9 v) := by
  obtain ⟨⟨b3, b4, b7, b9, b10, bp, bc, br, be⟩, i⟩ := h
  refine ⟨⟨⟨b3, b4, b7, ⟨v0, v1⟩, b10, fun q hq => ?_, fun q hq => ?_, fun j hj => ?_, fun j hj => ?_⟩, RIv_u i ⟨by decide, Or.inl (by decide)⟩⟩, NF.u (by decide)⟩
  · rw [tU_ne (by omega)]; exact bp q hq
  · rw [tU_ne (by omega)]; exact bc q hq
  · rw [tU_ne (by omega)]; exact br j hj
  · rw [tU_ne (by omega)]; exact be j hj
theorem niT_ok {segs : List (List Int × Int × Int)} {d : Int} {dr : Bool} {t : Nat → Int} (h : NI t) : NI (niT segs d dr t) ∧ NF t (niT segs d dr t) := by
  have a := niW_ok (dr := dr) h
  have b := niE_ok (segs := segs) (d := d) a.1
  have b9 := b.1.1.2.2.2.1
  unfold niT
  have c := ni9_ok (v := if 9999 < niE segs d (niW dr t) 9 + 1 then 9999 else niE segs d (niW dr t) 9 + 1) b.1 (by split <;> omega) (by split <;> omega)
  exact ⟨c.1, (a.2.tr b.2).tr c.2⟩
theorem goL_ok {segs : List (List Int × Int × Int)} {dr : Bool} : ∀ (n : Nat) (t : Nat → Int), NI t → NI (goL segs dr n t) ∧ NF t (goL segs dr n t)
  | 0, _, h => ⟨h, NF.rf⟩
  | n + 1, t, h => by
    have a := niT_ok (segs := segs) (d := dsT t) (dr := dr) h
    have b := goL_ok (segs := segs) (dr := dr) n _ a.1
    exact ⟨b.1, a.2.tr b.2⟩
theorem goN_b {segs : List (List Int × Int × Int)} {dr : Bool} : ∀ (n : Nat) (t : Nat → Int) (a : Int), NI t → a ≤ goN segs dr n t a ∧ goN segs dr n t a ≤ a + 8 * n
  | 0, _, a, _ => ⟨Int.le_refl a, by show a ≤ a + 8 * 0; omega⟩
  | n + 1, t, a, h => by
    have b := niT_ok (segs := segs) (d := dsT t) (dr := dr) h
    have c := niN_b (segs := segs) (d := dsT t) (niW_ok (dr := dr) h).1
    have e := goN_b (segs := segs) (dr := dr) n (niT segs (dsT t) dr t) (a + niN segs (dsT t) (niW dr t)) b.1
    have e2 : goN segs dr (n + 1) t a = goN segs dr n (niT segs (dsT t) dr t) (a + niN segs (dsT t) (niW dr t)) := rfl
    rw [e2]
    omega
theorem dsT_b {t : Nat → Int} (h : NI t) : -1 ≤ dsT t ∧ dsT t ≤ 5 ∧ (dsT t ≠ -1 → 0 ≤ dsT t ∧ dsT t < t 4) := by
  have b4 := h.1.2.1
  have b9 := h.1.2.2.2.1
  unfold dsT
  by_cases c : t 4 = 0
  · rw [if_pos c]; omega
  · rw [if_neg c]
    have m0 : 0 ≤ t 9 % t 4 := Int.emod_nonneg _ c
    have m1 : t 9 % t 4 < t 4 := Int.emod_lt_of_pos _ (by omega)
    omega
section FII
variable {W : ax_W} {r : Nat} {G : Nat → Nat → Int} {t : Nat → Int} {Q : Nat → Nat → (Nat → Nat → Int) → Prop} {segs : List (List Int × Int × Int)}
theorem sp_mwanders {p : Nat} (h : NB t) (hp : p < 8) (ha : t (12 + 7 * p) ≠ -1) (kq : Q 0 0 (frow G (wanT t p))) : fx W r 2 327 0 [1186, fI (p : Int), 7] [] (frow G t) Q := by
  refine fx_rg (fun hg => ?_)
  have r6 := hgA hg 764 (c := 149) (j := 6) (by decide +kernel) (by decide)
  rw [frow_m] at r6
  unfold fR at r6
  obtain ⟨b3, b4, b7, b9, b10, bp, bc, br, be⟩ := h
  have bpp := bp p hp
  have rb := br (t (12 + 7 * p)).toNat (by omega)
  have hb := pB_b rb.1 rb.2
  have d1 := dwS_b (nxS (t 11))
  have d2 := dwS_b (nxS (nxS (t 11)))
  have m1 := fop_rm_b (d := dwS (nxS (t 11))) (n := 100) d1.1 (by omega) (by decide) (by decide)
  unfold wanT at kq
  refine fx_la 0 1 (v := 1186) (by decide +kernel) rfl (by decide +kernel) ?_
  refine fx_ci (100) 3 (by decide +kernel) ?_
  refine fx_c2 328 21 6 0 [] (by decide +kernel) (by decide) (by decide) (fI_n4 _) rfl (by first | decide | omega) ?_
  refine sp_mdraw (by decide) (by decide) (fK1 ?_)
  refine fx_la 0 7 (v := 1186) (by decide +kernel) rfl (by decide +kernel) ?_
  refine fx_gp 1186 148 1 1194 10 (by decide +kernel) ?_
  refine fx_ci (6) 12 (by decide +kernel) ?_
  refine fx_al 1194 149 764 13 (by decide +kernel) rfl (by omega) (by omega) rfl ?_
  try simp only [fu_app, fcy_app, Nat.reduceEqDiff, and_true, and_false, false_and, true_and, if_true, if_false, ite_true, ite_false, reduceIte, Int.reduceToNat, fx_simp0]
  rw [frow_m, tU_ne (by decide)]
  refine fx_ilt 17 16 (by decide +kernel) (by unfold fR; omega) (by unfold fR; omega) (fun h13 => ?_) (fun h13 => ?_)
  · rw [if_pos (by omega)] at kq
    refine fx_la 0 18 (v := 1186) (by decide +kernel) rfl (by decide +kernel) ?_
    refine fx_gp 1186 148 1 1194 21 (by decide +kernel) ?_
    refine fx_ci (116) 23 (by decide +kernel) ?_
    refine fx_la 0 24 (v := 1186) (by decide +kernel) rfl (by decide +kernel) ?_
    refine fx_li 1 25 (by decide +kernel) rfl ?_
    refine fx_ci (0) 26 (by decide +kernel) ?_
    refine fx_c3 299 21 29 0 [] (by decide +kernel) (by decide) (by decide) (fI_n4 _) (fI_n4 _) rfl (by first | decide | omega) ?_
    refine sp_mof (w := 0) hp (by decide) (fK1 ?_)
    rw [frow_m, tU_ne (by omega), show 12 + 7 * p + 0 = 12 + 7 * p from rfl]
    refine fx_add 30 (by decide +kernel) rfl ?_
    refine fx_al 1194 149 764 31 (by decide +kernel) rfl (by omega) (by omega) rfl ?_
    try simp only [fu_app, fcy_app, Nat.reduceEqDiff, and_true, and_false, false_and, true_and, if_true, if_false, ite_true, ite_false, reduceIte, Int.reduceToNat, fx_simp0]
    rw [frow_m, show (116 + t (12 + 7 * p)).toNat = 116 + (t (12 + 7 * p)).toNat by omega, tU_ne (by omega)]
    refine fx_si 2 32 (by decide +kernel) (Or.inr (fI_n4 _)) rfl ?_
    dsimp only [List.set]
    refine fx_li 2 33 (by decide +kernel) rfl ?_
    refine fx_zeq 54 36 (by decide +kernel) (by unfold fR; omega) (fun h33 => ?_) (fun h33 => ?_)
    · refine fx_vret (by decide +kernel) ?_
      rw [if_pos (by omega)] at kq
      exact kq
    · rw [if_neg (by omega)] at kq
      have n1 := hb.2.2.1 (by omega)
      have rm := fop_rm_b (d := dwS (nxS (nxS (t 11)))) (n := pB (t (116 + (t (12 + 7 * p)).toNat)) 31) d2.1 (by omega) (by omega) (by omega)
      obtain ⟨-, -, -, k0, k1⟩ := pM_ok rb.1 rb.2 rm.1 rm.2
      refine fx_la 0 37 (v := 1186) (by decide +kernel) rfl (by decide +kernel) ?_
      refine fx_li 1 38 (by decide +kernel) rfl ?_
      refine fx_ci (0) 39 (by decide +kernel) ?_
      refine fx_li 2 40 (by decide +kernel) rfl ?_
      refine fx_la 0 41 (v := 1186) (by decide +kernel) rfl (by decide +kernel) ?_
      refine fx_li 2 42 (by decide +kernel) rfl ?_
      refine fx_c1 329 22 45 0 [7, 7] (f_q22 (by decide +kernel)) (fI_n4 _) rfl (by first | decide | omega) ?_
      refine sp_mbits8 (fK1 ?_)
      refine fx_c2 328 21 48 0 [] (by decide +kernel) (by decide) (by decide) (fI_n4 _) rfl (by first | decide | omega) ?_
      refine sp_mdraw (by omega) (by omega) (fK1 ?_)
      rw [tU_eq, tU_tU]
      refine fx_c2 330 22 51 1 [7, 7] (f_q22 (by decide +kernel)) (by decide) (fI_n4 _) (fI_n4 _) rfl (by first | decide | omega) ?_
      refine sp_mkth (fop_R _ _ _) (fK1 ?_)
      refine fx_c4 288 21 54 0 [] (by decide +kernel) (by decide) (by decide) (fI_n4 _) (fI_n4 _) (fI_n4 _) rfl (by first | decide | omega) ?_
      refine sp_mputF (w := 0) hp (by decide) (by unfold fR; omega) (fK0 ?_)
      refine fx_vret (by decide +kernel) ?_
      exact kq
  · refine fx_vret (by decide +kernel) ?_
    rw [if_neg (by omega)] at kq
    exact kq
theorem sp_mliesCold {p : Nat} {d : Int} (h : NB t) (hl : LwR t segs) (hp : p < 8) (ha : t (12 + 7 * p) ≠ -1) (hd : 0 ≤ d ∧ d < t 4) (kq : ∀ G', rN G G' → Q 1 (fI (if eV t segs p (t (12 + 7 * p)) d = 0 then 1 else 0)) (frow G' (eaT segs d t p))) : fx W r 37 331 0 [1186, fI (p : Int), fI d, 7, 7] [] (frow G t) Q := by
  obtain ⟨b3, b4, b7, b9, b10, bp, bc, br, be⟩ := h
  have bpp := bp p hp
  have bcp := bc p hp
  unfold eaT at kq
  refine fx_la 0 1 (v := 1186) (by decide +kernel) rfl (by decide +kernel) ?_
  refine fx_li 1 2 (by decide +kernel) rfl ?_
  refine fx_la 0 3 (v := 1186) (by decide +kernel) rfl (by decide +kernel) ?_
  refine fx_li 1 4 (by decide +kernel) rfl ?_
  refine fx_ci (0) 5 (by decide +kernel) ?_
  refine fx_c3 299 21 8 0 [] (by decide +kernel) (by decide) (by decide) (fI_n4 _) (fI_n4 _) rfl (by first | decide | omega) ?_
  refine sp_mof (w := 0) hp (by decide) (fK1 ?_)
  rw [frow_m, show 12 + 7 * p + 0 = 12 + 7 * p from rfl]
  refine fx_li 2 9 (by decide +kernel) rfl ?_
  refine fx_c4 316 21 12 36 [] (by decide +kernel) (by decide) (by decide) (fI_n4 _) (fI_n4 _) (fI_n4 _) rfl (by first | decide | omega) ?_
  refine sp_meatsBy (segs := segs) (by rw [frow_mm]; exact hl) hp ⟨by omega, bpp.2⟩ ⟨hd.1, by omega⟩ (by rw [frow_m]; exact be _ (by omega)) (fun g1 x1 => fK1 ?_)
  obtain ⟨e1, x2⟩ := x1.row
  rw [frow_mm, e1]
  have kq := kq g1 x2
  have ev : 0 ≤ eV t segs p (t (12 + 7 * p)) d ∧ eV t segs p (t (12 + 7 * p)) d ≤ 1000 := by
    have hok := hl.ok (mFv_78 t p (t (12 + 7 * p)) d)
    have hmb := lwM_b (F := mFv t p (t (12 + 7 * p)) d) segs 0 (fun s hs => (hok s hs).2.2)
    have h12 := hl.2.2.2
    have be2 := be (d * 8 + t (12 + 7 * p)).toNat (by omega)
    unfold eV
    split <;> omega
  refine fx_zne 19 15 (by decide +kernel) (by unfold fR; omega) (fun h12 => ?_) (fun h12 => ?_)
  · rw [if_neg (by omega), if_neg (by omega)] at kq
    refine fx_ci (0) 20 (by decide +kernel) ?_
    refine fx_si 3 21 (by decide +kernel) (Or.inr (fI_n4 _)) rfl ?_
    dsimp only [List.set]
    refine fx_la 0 22 (v := 1186) (by decide +kernel) rfl (by decide +kernel) ?_
    refine fx_li 1 23 (by decide +kernel) rfl ?_
    refine fx_ci (6) 25 (by decide +kernel) ?_
    refine fx_c3 299 21 28 0 [] (by decide +kernel) (by decide) (by decide) (fI_n4 _) (fI_n4 _) rfl (by first | decide | omega) ?_
    refine sp_mof (w := 6) hp (by decide) (fK1 ?_)
    rw [frow_m, show 12 + 7 * p + 6 = 18 + 7 * p by omega]
    refine fx_si 4 30 (by decide +kernel) (Or.inr (fI_n4 _)) rfl ?_
    dsimp only [List.set]
    refine fx_la 0 31 (v := 1186) (by decide +kernel) rfl (by decide +kernel) ?_
    refine fx_li 1 32 (by decide +kernel) rfl ?_
    refine fx_ci (6) 34 (by decide +kernel) ?_
    refine fx_li 3 35 (by decide +kernel) rfl ?_
    refine fx_zeq 50 38 (by decide +kernel) (by unfold fR; omega) (fun _ => ?_) (fun hc => absurd hc (by decide))
    refine fx_ci (0) 51 (by decide +kernel) ?_
    refine fx_c4 288 21 54 0 [] (by decide +kernel) (by decide) (by decide) (fI_n4 _) (fI_n4 _) (fI_n4 _) rfl (by first | decide | omega) ?_
    refine sp_mputF (w := 6) hp (by decide) (by unfold fR; omega) (fK0 ?_)
    refine fx_li 4 56 (by decide +kernel) rfl ?_
    refine fx_la 0 57 (v := 1186) (by decide +kernel) rfl (by decide +kernel) ?_
    refine fx_gp 1186 148 1 1194 60 (by decide +kernel) ?_
    refine fx_ci (7) 62 (by decide +kernel) ?_
    refine fx_al 1194 149 764 63 (by decide +kernel) rfl (by omega) (by omega) rfl ?_
    try simp only [fu_app, fcy_app, Nat.reduceEqDiff, and_true, and_false, false_and, true_and, if_true, if_false, ite_true, ite_false, reduceIte, Int.reduceToNat, fx_simp0]
    rw [frow_m, tU_ne (by omega)]
    refine fx_ige 95 66 (by decide +kernel) (by unfold fR; omega) (by unfold fR; omega) (fun h63 => ?_) (fun h63 => ?_)
    · refine fx_li 3 96 (by decide +kernel) rfl ?_
      refine fx_retb (by decide +kernel) (by first | exact Or.inl rfl | exact Or.inr rfl | omega) ?_
      exact kq
    · refine fx_la 0 67 (v := 1186) (by decide +kernel) rfl (by decide +kernel) ?_
      refine fx_li 1 68 (by decide +kernel) rfl ?_
      refine fx_ci (6) 70 (by decide +kernel) ?_
      refine fx_c3 299 21 73 0 [] (by decide +kernel) (by decide) (by decide) (fI_n4 _) (fI_n4 _) rfl (by first | decide | omega) ?_
      refine sp_mof (w := 6) hp (by decide) (fK1 ?_)
      rw [frow_m, tU_eq]
      refine fx_la 0 74 (v := 1186) (by decide +kernel) rfl (by decide +kernel) ?_
      refine fx_gp 1186 148 1 1194 77 (by decide +kernel) ?_
      refine fx_ci (7) 79 (by decide +kernel) ?_
      refine fx_al 1194 149 764 80 (by decide +kernel) rfl (by omega) (by omega) rfl ?_
      try simp only [fu_app, fcy_app, Nat.reduceEqDiff, and_true, and_false, false_and, true_and, if_true, if_false, ite_true, ite_false, reduceIte, Int.reduceToNat, fx_simp0]
      rw [frow_m, tU_ne (by omega)]
      refine fx_ine 95 83 (by decide +kernel) (by unfold fR; omega) (by unfold fR; omega) (fun h80 => ?_) (fun h80 => ?_)
      · refine fx_li 3 96 (by decide +kernel) rfl ?_
        refine fx_retb (by decide +kernel) (by first | exact Or.inl rfl | exact Or.inr rfl | omega) ?_
        exact kq
      · refine fx_la 0 84 (v := 1186) (by decide +kernel) rfl (by decide +kernel) ?_
        refine fx_li 1 85 (by decide +kernel) rfl ?_
        refine fx_ci (3) 86 (by decide +kernel) ?_
        refine fx_la 0 87 (v := 1186) (by decide +kernel) rfl (by decide +kernel) ?_
        refine fx_li 1 88 (by decide +kernel) rfl ?_
        refine fx_ci (0) 89 (by decide +kernel) ?_
        refine fx_c3 299 21 92 0 [] (by decide +kernel) (by decide) (by decide) (fI_n4 _) (fI_n4 _) rfl (by first | decide | omega) ?_
        refine sp_mof (w := 0) hp (by decide) (fK1 ?_)
        rw [frow_m, tU_ne (by omega), show 12 + 7 * p + 0 = 12 + 7 * p from rfl]
        refine fx_c4 323 21 95 1 [7] (by decide +kernel) (by decide) (by decide) (fI_n4 _) (fI_n4 _) (fI_n4 _) rfl (by first | decide | omega) ?_
        refine sp_mlogsF (by unfold fR; omega) (by unfold fR; omega) (by unfold fR; omega) (by rw [tU_ne (by omega)]; exact b10.1) (by rw [tU_ne (by omega)]; exact b10.2) (fK0 ?_)
        refine fx_li 3 96 (by decide +kernel) rfl ?_
        refine fx_retb (by decide +kernel) (by first | exact Or.inl rfl | exact Or.inr rfl | omega) ?_
        exfalso; omega
  · rw [if_pos (by omega), if_pos (by omega)] at kq
    refine fx_ci (1) 16 (by decide +kernel) ?_
    refine fx_go 20 (by decide +kernel) ?_
    refine fx_si 3 21 (by decide +kernel) (Or.inr (fI_n4 _)) rfl ?_
    dsimp only [List.set]
    refine fx_la 0 22 (v := 1186) (by decide +kernel) rfl (by decide +kernel) ?_
    refine fx_li 1 23 (by decide +kernel) rfl ?_
    refine fx_ci (6) 25 (by decide +kernel) ?_
    refine fx_c3 299 21 28 0 [] (by decide +kernel) (by decide) (by decide) (fI_n4 _) (fI_n4 _) rfl (by first | decide | omega) ?_
    refine sp_mof (w := 6) hp (by decide) (fK1 ?_)
    rw [frow_m, show 12 + 7 * p + 6 = 18 + 7 * p by omega]
    refine fx_si 4 30 (by decide +kernel) (Or.inr (fI_n4 _)) rfl ?_
    dsimp only [List.set]
    refine fx_la 0 31 (v := 1186) (by decide +kernel) rfl (by decide +kernel) ?_
    refine fx_li 1 32 (by decide +kernel) rfl ?_
    refine fx_ci (6) 34 (by decide +kernel) ?_
    refine fx_li 3 35 (by decide +kernel) rfl ?_
    refine fx_zeq 50 38 (by decide +kernel) (by unfold fR; omega) (fun hc => absurd hc (by decide)) (fun _ => ?_)
    refine fx_ci (99) 40 (by decide +kernel) ?_
    refine fx_li 4 42 (by decide +kernel) rfl ?_
    refine fx_ci (1) 43 (by decide +kernel) ?_
    refine fx_add 44 (by decide +kernel) rfl ?_
    refine fx_c2 322 22 47 0 [] (f_q22 (by decide +kernel)) (by decide) (fI_n4 _) (fI_n4 _) rfl (by first | decide | omega) ?_
    refine sp_mlesser (by unfold fR; omega) (by unfold fR; omega) (fK1 ?_)
    generalize hv : (if 99 < t (18 + 7 * p) + 1 then 99 else t (18 + 7 * p) + 1) = v at kq ⊢
    have hv2 : 0 ≤ v ∧ v ≤ 99 := by rw [← hv]; split <;> omega
    refine fx_go 51 (by decide +kernel) ?_
    refine fx_c4 288 21 54 0 [] (by decide +kernel) (by decide) (by decide) (fI_n4 _) (fI_n4 _) (fI_n4 _) rfl (by first | decide | omega) ?_
    refine sp_mputF (w := 6) hp (by decide) (by unfold fR; omega) (fK0 ?_)
    refine fx_li 4 56 (by decide +kernel) rfl ?_
    refine fx_la 0 57 (v := 1186) (by decide +kernel) rfl (by decide +kernel) ?_
    refine fx_gp 1186 148 1 1194 60 (by decide +kernel) ?_
    refine fx_ci (7) 62 (by decide +kernel) ?_
    refine fx_al 1194 149 764 63 (by decide +kernel) rfl (by omega) (by omega) rfl ?_
    try simp only [fu_app, fcy_app, Nat.reduceEqDiff, and_true, and_false, false_and, true_and, if_true, if_false, ite_true, ite_false, reduceIte, Int.reduceToNat, fx_simp0]
    rw [frow_m, tU_ne (by omega)]
    refine fx_ige 95 66 (by decide +kernel) (by unfold fR; omega) (by unfold fR; omega) (fun h63 => ?_) (fun h63 => ?_)
    · refine fx_li 3 96 (by decide +kernel) rfl ?_
      refine fx_retb (by decide +kernel) (by first | exact Or.inl rfl | exact Or.inr rfl | omega) ?_
      rw [if_neg (fun u => by omega)] at kq
      exact kq
    · refine fx_la 0 67 (v := 1186) (by decide +kernel) rfl (by decide +kernel) ?_
      refine fx_li 1 68 (by decide +kernel) rfl ?_
      refine fx_ci (6) 70 (by decide +kernel) ?_
      refine fx_c3 299 21 73 0 [] (by decide +kernel) (by decide) (by decide) (fI_n4 _) (fI_n4 _) rfl (by first | decide | omega) ?_
      refine sp_mof (w := 6) hp (by decide) (fK1 ?_)
      rw [frow_m, tU_eq]
      refine fx_la 0 74 (v := 1186) (by decide +kernel) rfl (by decide +kernel) ?_
      refine fx_gp 1186 148 1 1194 77 (by decide +kernel) ?_
      refine fx_ci (7) 79 (by decide +kernel) ?_
      refine fx_al 1194 149 764 80 (by decide +kernel) rfl (by omega) (by omega) rfl ?_
      try simp only [fu_app, fcy_app, Nat.reduceEqDiff, and_true, and_false, false_and, true_and, if_true, if_false, ite_true, ite_false, reduceIte, Int.reduceToNat, fx_simp0]
      rw [frow_m, tU_ne (by omega)]
      refine fx_ine 95 83 (by decide +kernel) (by unfold fR; omega) (by unfold fR; omega) (fun h80 => ?_) (fun h80 => ?_)
      · refine fx_li 3 96 (by decide +kernel) rfl ?_
        refine fx_retb (by decide +kernel) (by first | exact Or.inl rfl | exact Or.inr rfl | omega) ?_
        rw [if_neg (fun u => by omega)] at kq
        exact kq
      · refine fx_la 0 84 (v := 1186) (by decide +kernel) rfl (by decide +kernel) ?_
        refine fx_li 1 85 (by decide +kernel) rfl ?_
        refine fx_ci (3) 86 (by decide +kernel) ?_
        refine fx_la 0 87 (v := 1186) (by decide +kernel) rfl (by decide +kernel) ?_
        refine fx_li 1 88 (by decide +kernel) rfl ?_
        refine fx_ci (0) 89 (by decide +kernel) ?_
        refine fx_c3 299 21 92 0 [] (by decide +kernel) (by decide) (by decide) (fI_n4 _) (fI_n4 _) rfl (by first | decide | omega) ?_
        refine sp_mof (w := 0) hp (by decide) (fK1 ?_)
        rw [frow_m, tU_ne (by omega), show 12 + 7 * p + 0 = 12 + 7 * p from rfl]
        refine fx_c4 323 21 95 1 [7] (by decide +kernel) (by decide) (by decide) (fI_n4 _) (fI_n4 _) (fI_n4 _) rfl (by first | decide | omega) ?_
        refine sp_mlogsF (by unfold fR; omega) (by unfold fR; omega) (by unfold fR; omega) (by rw [tU_ne (by omega)]; exact b10.1) (by rw [tU_ne (by omega)]; exact b10.2) (fK0 ?_)
        refine fx_li 3 96 (by decide +kernel) rfl ?_
        refine fx_retb (by decide +kernel) (by first | exact Or.inl rfl | exact Or.inr rfl | omega) ?_
        rw [if_pos ⟨by omega, by omega⟩] at kq
        exact kq
end FII
