/-! fx: contracts of starves, ahead, trial, span leave m as it was -/
theorem gx_validm {N : Nat} {sy : sx_Y} {c : ax_C} {md d : Nat} (hv : ax_Valid N sy c) (hmd : ∀ i, i ≠ 4768 → ax_tb c.2.2.2.2.1 i = true → ax_tb md i = true) (hd : d ≤ c.2.1) (hfr : ax_tb c.2.2.2.2.1 5120 = false)
    (hf : ∀ W : ax_W, W.N = N → W.sy = sy → ∀ cav h g Lj, ax_As c.2.2.1 cav → ax_Ps c.2.2.2.1 h → gHs g → sx_xp cav (sx_im (sx_mt c.1).2) = some Lj → fx W 1 d c.1 0 Lj [] g (fun _ _ g' => ∀ j, j < 364 → g' 149 j = g 149 j)) : ax_Valid N sy (c.1, c.2.1, c.2.2.1, c.2.2.2.1, md, c.2.2.2.2.2.1, c.2.2.2.2.2.2) := by
  intro D cav h cs ss Lj h1 h2 h3 h4 h5 h6 h7
  have h1 : c.2.1 ≤ D := h1
  obtain ⟨co, ev, a1, a2, t, a3, a4⟩ := hv D cav h cs ss Lj h1 h2 h3 h4 h5 h6 h7
  refine ⟨co, ev, a1, a2, t, a3, ?_⟩
  obtain ⟨E1, E2, E3, E4, E5, E6, E7, E8, E9, E10⟩ := a4
  refine ⟨E1, E2, E3, E4, E5, E6, E7, E8, ⟨fun c' j hc hj hb => ?_, fun _ => E9.2 hfr⟩, E10⟩
  by_cases m : c' = 149
  · subst m
    by_cases j3 : j < 364
    · have v := HV_of h4
      obtain ⟨o, ev2, -, -, g', v', q', -⟩ := hf (N, sy, h, 0, 0, 0, 0, 0) rfl rfl cav h (fG h) Lj h2 h3 (gHs_of h4 v) h7 D h cs ss (by omega) v (by omega) (by omega)
      have e : co = o := cx_uniq (W := (N, sy, h, 0, 0, 0, 0, 0)) ev ev2
      subst e
      rw [(v'.2 _ j hc hj).1, (v.2 _ j hc hj).1, q' j j3]
    · exact E9.2 hfr j (by omega)
  · refine E9.1 c' j hc hj ?_
    cases e : ax_tb c.2.2.2.2.1 (ax_bit (ax_ar c') c' j) with
    | false => rfl
    | true =>
      have hb : ax_tb md (ax_bit (ax_ar c') c' j) = false := hb
      rw [hmd _ (by
        have l := ax_len32 c' hc
        show 32 * c' + cond (ax_ar c') 0 j ≠ 4768
        cases hr : ax_ar c' with
        | true => show 32 * c' + 0 ≠ 4768; omega
        | false => show 32 * c' + j ≠ 4768; have := l hr; omega) e] at hb
      cases hb
theorem ax_Aq_of {lo hi v : Nat} (h : ax_Aq (1, lo, hi) v) : ∃ z, fR z ∧ v = fI z := by
  rcases h with ⟨k, -⟩ | ⟨-, k, -⟩ | ⟨-, -, P, e, -⟩
  · cases k
  · cases k
  · exact ⟨P.toInt, ⟨by have := Int32.le_toInt P; omega, by have := Int32.toInt_lt P; omega⟩, by rw [e]; exact fI_of_toBv P⟩
theorem ax_As_i1 {l1 u1 : Nat} {cav : List Nat} (h : ax_As [(0, 1186, 0), (1, l1, u1)] cav) : ∃ z, fR z ∧ cav = [1186, fI z] := by
  match cav, h with
  | a :: l, h =>
    obtain ⟨h1, h⟩ := h
    have e : [a] = [1186] := ax_As2 (p := 1186) ⟨h1, True.intro⟩ (by decide)
    cases e
    match l, h with
    | [b], h =>
      obtain ⟨z, hz, rfl⟩ := ax_Aq_of h.1
      exact ⟨z, hz, rfl⟩
    | [], h => exact h.elim
    | _ :: _ :: _, h => exact h.2.elim
  | [], h => exact h.elim
theorem ax_As_i2 {l1 u1 l2 u2 : Nat} {cav : List Nat} (h : ax_As [(0, 1186, 0), (1, l1, u1), (1, l2, u2)] cav) : ∃ z w, fR z ∧ fR w ∧ cav = [1186, fI z, fI w] := by
  match cav, h with
  | a :: l, h =>
    obtain ⟨h1, h⟩ := h
    have e : [a] = [1186] := ax_As2 (p := 1186) ⟨h1, True.intro⟩ (by decide)
    cases e
    match l, h with
    | [b, c], h =>
      obtain ⟨z, hz, rfl⟩ := ax_Aq_of h.1
      obtain ⟨w, hw, rfl⟩ := ax_Aq_of h.2.1
      exact ⟨z, w, hz, hw, rfl⟩
    | [], h => exact h.elim
    | [_], h => exact h.2.elim
    | _ :: _ :: _ :: _, h => exact h.2.2.elim
  | [], h => exact h.elim
section FYU
variable {N : Nat} {sy : sx_Y} {c : ax_C} {md dd l1 u1 l2 u2 : Nat} {cP cB cI cG cM cO cC cT cA : ax_C}
theorem gx_starves (hv : ax_Valid N sy c) (h1 : c.1 = 394) (h2 : c.2.2.1 = [(0, 1186, 0), (1, l1, u1)]) (hd : dd + 1 ≤ c.2.1) (h3 : 3 ≤ dd) (hmd : ∀ i, i ≠ 4768 → ax_tb c.2.2.2.2.1 i = true → ax_tb md i = true) (hfr : ax_tb c.2.2.2.2.1 5120 = false) (kP : KD N sy 268 dd cP) (kB : KD N sy 294 dd cB) (kI : KC N sy 301 [(0, 1186, 0), (1, 2147483648, 2147483655)] dd cI) (kG : KC N sy 338 [(0, 1186, 0), (1, 2147483648, 2147483708), (1, 2147483648, 2147483649)] dd cG) (kM : KC N sy 300 [(0, 1186, 0), (1, 2147483648, 2147483655)] dd cM) : ax_Valid N sy (c.1, c.2.1, c.2.2.1, c.2.2.2.1, md, c.2.2.2.2.2.1, c.2.2.2.2.2.2) :=
  gx_validm hv hmd hd hfr (fun W e1 e2 cav h g Lj a1 _ hg hx => by
    rw [h2] at a1
    obtain ⟨z, hz, rfl⟩ := ax_As_i1 a1
    rw [h1] at hx ⊢
    have hx : some [1186, fI z, 7, 7, 7] = some Lj := (f_xp (f_n4_2 (by decide)) (show 2 ≤ _ by decide +kernel)).symm.trans hx
    cases hx
    subst e1 e2
    exact sp_starves h3 (Nat.le_refl _) hz hg kP kB kI kG kM (fun v g' t => t))
theorem gx_ahead (hv : ax_Valid N sy c) (h1 : c.1 = 397) (h2 : c.2.2.1 = [(0, 1186, 0), (1, l1, u1), (1, l2, u2)]) (hd : dd + 1 ≤ c.2.1) (h3 : 3 ≤ dd) (hmd : ∀ i, i ≠ 4768 → ax_tb c.2.2.2.2.1 i = true → ax_tb md i = true) (hfr : ax_tb c.2.2.2.2.1 5120 = false) (kP : KD N sy 268 dd cP) (kB : KD N sy 294 dd cB) (kG : KC N sy 338 [(0, 1186, 0), (1, 2147483648, 2147483708), (1, 2147483648, 2147483649)] dd cG) (kO : KC N sy 299 [(0, 1186, 0), (1, 2147483648, 2147483655), (1, 2147483648, 2147483654)] dd cO) : ax_Valid N sy (c.1, c.2.1, c.2.2.1, c.2.2.2.1, md, c.2.2.2.2.2.1, c.2.2.2.2.2.2) :=
  gx_validm hv hmd hd hfr (fun W e1 e2 cav h g Lj a1 _ hg hx => by
    rw [h2] at a1
    obtain ⟨z, w, hz, hw, rfl⟩ := ax_As_i2 a1
    rw [h1] at hx ⊢
    have hx : some [1186, fI z, fI w, 7, 7] = some Lj := (f_xp (f_n4_3 (by decide)) (show 3 ≤ _ by decide +kernel)).symm.trans hx
    cases hx
    subst e1 e2
    exact sp_ahead h3 (Nat.le_refl _) hz hw hg kP kB kG kO (fun v g' t => t))
theorem gx_trial (hv : ax_Valid N sy c) (h1 : c.1 = 399) (h2 : c.2.2.1 = [(0, 1186, 0), (1, l1, u1), (1, l2, u2)]) (hd : dd + 1 ≤ c.2.1) (h3 : 3 ≤ dd) (hmd : ∀ i, i ≠ 4768 → ax_tb c.2.2.2.2.1 i = true → ax_tb md i = true) (hfr : ax_tb c.2.2.2.2.1 5120 = false) (kP : KD N sy 268 dd cP) (kB : KD N sy 294 dd cB) (kG : KC N sy 338 [(0, 1186, 0), (1, 2147483648, 2147483708), (1, 2147483648, 2147483649)] dd cG) (kC : KC N sy 400 [(0, 1186, 0)] dd cC) (kT : KC N sy 401 [(0, 1186, 0)] dd cT) : ax_Valid N sy (c.1, c.2.1, c.2.2.1, c.2.2.2.1, md, c.2.2.2.2.2.1, c.2.2.2.2.2.2) :=
  gx_validm hv hmd hd hfr (fun W e1 e2 cav h g Lj a1 _ hg hx => by
    rw [h2] at a1
    obtain ⟨z, w, hz, hw, rfl⟩ := ax_As_i2 a1
    rw [h1] at hx ⊢
    have hx : some [1186, fI z, fI w, 7, 7] = some Lj := (f_xp (f_n4_3 (by decide)) (show 3 ≤ _ by decide +kernel)).symm.trans hx
    cases hx
    subst e1 e2
    exact sp_trial h3 (Nat.le_refl _) hz hw hg kP kB kG kC kT (fun v g' t => t))
theorem gx_span (hv : ax_Valid N sy c) (h1 : c.1 = 402) (h2 : c.2.2.1 = [(0, 1186, 0), (1, l1, u1), (1, l2, u2)]) (hd : dd + 1 ≤ c.2.1) (h3 : 3 ≤ dd) (hmd : ∀ i, i ≠ 4768 → ax_tb c.2.2.2.2.1 i = true → ax_tb md i = true) (hfr : ax_tb c.2.2.2.2.1 5120 = false) (kP : KD N sy 268 dd cP) (kB : KD N sy 294 dd cB) (kG : KC N sy 338 [(0, 1186, 0), (1, 2147483648, 2147483708), (1, 2147483648, 2147483649)] dd cG) (kA : KC N sy 403 [(0, 1186, 0)] dd cA) : ax_Valid N sy (c.1, c.2.1, c.2.2.1, c.2.2.2.1, md, c.2.2.2.2.2.1, c.2.2.2.2.2.2) :=
  gx_validm hv hmd hd hfr (fun W e1 e2 cav h g Lj a1 _ hg hx => by
    rw [h2] at a1
    obtain ⟨z, w, hz, hw, rfl⟩ := ax_As_i2 a1
    rw [h1] at hx ⊢
    have hx : some [1186, fI z, fI w, 7, 7, 7, 7] = some Lj := (f_xp (f_n4_3 (by decide)) (show 3 ≤ _ by decide +kernel)).symm.trans hx
    cases hx
    subst e1 e2
    exact sp_span h3 (Nat.le_refl _) hz hw hg kP kB kG kA (fun v g' t => t))
end FYU
/-- a number with the bit more, and without -/
theorem gx_mb {m' m : Nat} (h : Nat.beq m' (Nat.lor m (2 ^ 4768)) = true) : ∀ i, i ≠ 4768 → ax_tb m' i = true → ax_tb m i = true := fun i hi ht => by
  have h : m' = m ||| 2 ^ 4768 := sx_beq h
  have tb : ∀ n, ax_tb n i = Nat.testBit n i := fun n => by
    unfold ax_tb Nat.testBit
    show Nat.beq ((n >>> i) % 2) 1 = (1 &&& n >>> i != 0)
    rw [Nat.one_and_eq_mod_two]
    rcases Nat.mod_two_eq_zero_or_one (n >>> i) with e | e <;> rw [e] <;> rfl
  rw [tb, h, Nat.testBit_or, Nat.testBit_two_pow_of_ne (by omega), Bool.or_false] at ht
  rw [tb]
  exact ht
