/-! fx: contracts of starves, ahead, trial, span keep what is kept -/
theorem gxg_cgb {g g' : Nat → Nat → Int} (h : gxg g) (hm : ∀ j, j < 364 → g' 149 j = g 149 j) (q : ∀ c j, c ≠ 149 → gx_K c j → j < (ax_cl c).1 / 256 → g' c j = g c j) : gxg g' := by
  obtain ⟨g1, g2, g3, g4⟩ := h
  have l2 : (ax_cl 2).1 / 256 = 400 := by decide +kernel
  have l153 : (ax_cl 153).1 / 256 = 400 := by decide +kernel
  have l150 : (ax_cl 150).1 / 256 = 764 := by decide +kernel
  have l152 : (ax_cl 152).1 / 256 = 4368 := by decide +kernel
  have l6 : (ax_cl 6).1 / 256 = 48 := by decide +kernel
  have l7 : (ax_cl 7).1 / 256 = 8 := by decide +kernel
  have l59 : (ax_cl 59).1 / 256 = 48 := by decide +kernel
  have l60 : (ax_cl 60).1 / 256 = 8 := by decide +kernel
  have l3 : 7 ≤ (ax_cl 3).1 / 256 := by decide +kernel
  have l56 : 7 ≤ (ax_cl 56).1 / 256 := by decide +kernel
  have l148 : 7 ≤ (ax_cl 148).1 / 256 := by decide +kernel
  have hm' : ∀ a b, (a = 3 ∧ b = 149) ∨ (a = 56 ∧ b = 150) → gxh g a b → gxh g' a b := by
    intro a b ab k
    obtain ⟨k1, k2, k3, k4, k5, k6⟩ := k
    have f : ∀ j, 4 ≤ j → j ≤ 6 → g' a j = g a j := fun j j1 j2 => q a j (by omega) (by unfold gx_K; omega) (by rcases ab with ⟨rfl, -⟩ | ⟨rfl, -⟩ <;> omega)
    have m : ∀ j, gx_P j → g' b j = g b j := fun j hj => by
      have hj2 : j < 364 := by unfold gx_P at hj; omega
      rcases ab with ⟨-, rfl⟩ | ⟨-, rfl⟩
      · exact hm j hj2
      · exact q 150 j (by decide) (by unfold gx_K; omega) (by omega)
    have e1 : ∀ j, j < 48 → g' (a + 3) j = g (a + 3) j := fun j hj => by
      rcases ab with ⟨rfl, -⟩ | ⟨rfl, -⟩
      · exact q 6 j (by decide) (by unfold gx_K; omega) (by omega)
      · exact q 59 j (by decide) (by unfold gx_K; omega) (by omega)
    have e2 : ∀ j, j < 8 → g' (a + 4) j = g (a + 4) j := fun j hj => by
      rcases ab with ⟨rfl, -⟩ | ⟨rfl, -⟩
      · exact q 7 j (by decide) (by unfold gx_K; omega) (by omega)
      · exact q 60 j (by decide) (by unfold gx_K; omega) (by omega)
    refine ⟨?_, ?_, ?_, fun j j1 j2 => ?_, fun j j1 => ?_, by rw [f 6 (by omega) (by omega)]; exact k6⟩
    · rw [f 4 (by omega) (by omega), m 3 (by unfold gx_P; omega)]; exact k1
    · rw [f 5 (by omega) (by omega), m 4 (by unfold gx_P; omega)]; exact k2
    · rw [f 6 (by omega) (by omega), m 0 (by unfold gx_P; omega)]; exact k3
    · rw [f 5 (by omega) (by omega)] at j2
      rw [e1 j j1, m _ (by unfold gx_P; omega)]
      exact k4 j j1 j2
    · rw [e2 j j1, m _ (by unfold gx_P; omega)]
      exact k5 j j1
  refine ⟨fun j hj => ?_, hm' _ _ (Or.inl ⟨rfl, rfl⟩) g2, hm' _ _ (Or.inr ⟨rfl, rfl⟩) g3, fun r k h1 h2 h3 => ?_⟩
  · rw [q 2 j (by decide) (by unfold gx_K; omega) (by omega), q 153 j (by decide) (by unfold gx_K; omega) (by omega)]
    exact g1 j hj
  · have hk : k < 364 := by unfold gx_P at h3; omega
    rw [q 148 6 (by decide) (by unfold gx_K; omega) (by omega)] at h1
    rw [q 152 (364 * r + k) (by decide) (by unfold gx_K; omega) (by omega), hm k hk]
    exact g4 r k h1 h2 h3
def gx_fb : List (Nat × Nat × Bool) := [(2, 0, true), (153, 0, true), (150, 0, true), (152, 0, true), (6, 0, true), (7, 0, true), (59, 0, true), (60, 0, true), (148, 6, false), (3, 4, false), (3, 5, false), (3, 6, false), (56, 4, false), (56, 5, false), (56, 6, false)]
theorem gx_validm {N : Nat} {sy : sx_Y} {c : ax_C} {md d : Nat} (hv : ax_Valid N sy c) (hmd : ∀ i, i ≠ 5120 → ax_tb c.2.2.2.2.1 i = true → ax_tb md i = true) (hd : d ≤ c.2.1) (hfr : gx_fb.all (fun q => !ax_tb c.2.2.2.2.1 (ax_bit q.2.2 q.1 q.2.1)) = true)
    (hf : ∀ W : ax_W, W.N = N → W.sy = sy → ∀ cav h g Lj, ax_As c.2.2.1 cav → ax_Ps c.2.2.2.1 h → gHs g → sx_xp cav (sx_im (sx_mt c.1).2) = some Lj → fx W 1 d c.1 0 Lj [] g (fun _ _ g' => ∀ j, j < 364 → g' 149 j = g 149 j)) : ax_Valid N sy (c.1, c.2.1, c.2.2.1, c.2.2.2.1, md, c.2.2.2.2.2.1, c.2.2.2.2.2.2) := by
  intro D cav h cs ss Lj h1 h2 h3 h4 h5 h6 h7
  have h1 : c.2.1 ≤ D := h1
  obtain ⟨co, ev, a1, a2, t, a3, a4⟩ := hv D cav h cs ss Lj h1 h2 h3 h4 h5 h6 h7
  refine ⟨co, ev, a1, a2, t, a3, ?_⟩
  obtain ⟨E1, E2, E3, E4, E5, E6, E7, E8, E9, E10⟩ := a4
  refine ⟨E1, E2, E3, E4, E5, E6, E7, E8, ⟨fun c' j hc hj hb => E9.1 c' j hc hj ?_, fun hg g0 => ?_⟩, E10⟩
  · cases e : ax_tb c.2.2.2.2.1 (ax_bit (ax_ar c') c' j) with
    | false => rfl
    | true =>
      have hb : ax_tb md (ax_bit (ax_ar c') c' j) = false := hb
      rw [hmd _ (by
        have l := ax_len32 c' hc
        show 32 * c' + cond (ax_ar c') 0 j ≠ 5120
        cases hr : ax_ar c' with
        | true => show 32 * c' + 0 ≠ 5120; omega
        | false => show 32 * c' + j ≠ 5120; have := l hr; omega) e] at hb
      cases hb
  · have v := HV_of h4
    have b := Hs_gxb h4 v
    obtain ⟨o, ev2, -, -, g', v', q', -⟩ := hf (N, sy, h, 0, 0, 0, 0, 0) rfl rfl cav h (fG h) Lj h2 h3 (gHs_of h4 v) h7 D h cs ss (by omega) v (by omega) (by omega)
    have e : co = o := cx_uniq (W := (N, sy, h, 0, 0, 0, 0, 0)) ev ev2
    subst e
    have nb : ∀ {x : Nat × Nat × Bool}, x ∈ gx_fb → ax_tb c.2.2.2.2.1 (ax_bit x.2.2 x.1 x.2.1) = false := fun hx => by
      have := List.all_eq_true.mp hfr _ hx
      simpa using this
    have fr : ∀ c' j, c' < 160 → j < (ax_cl c').1 / 256 → fInt c' j = true → ax_tb c.2.2.2.2.1 (ax_bit (ax_ar c') c' j) = false → g' c' j = fG h c' j := fun c' j hc hj hi hb => by
      have e := E9.1 c' j hc hj hb
      rw [(v'.2 c' j hc hj).1, (v.2 c' j hc hj).1] at e
      unfold fEnc at e
      rw [if_pos hi, if_pos hi] at e
      exact fI_inj ((v'.2 c' j hc hj).2.1 hi) ((v.2 c' j hc hj).2.1 hi) e
    have arr : ∀ c' j, c' < 160 → (ax_cl c').1 % 256 = 100 → (c', 0, true) ∈ gx_fb → j < (ax_cl c').1 / 256 → g' c' j = fG h c' j := fun c' j hc ha hx hj => by
      refine fr c' j hc hj (f_okp (j := j) hc ha).1 ?_
      have e : ax_ar c' = true := by
        unfold ax_ar
        rw [show Nat.mod (ax_cl c').1 256 = 100 from ha]
        rfl
      rw [e]
      exact nb hx
    have fld : ∀ c' j, c' < 160 → j < (ax_cl c').1 / 256 → fInt c' j = true → ax_ar c' = false → (c', j, false) ∈ gx_fb → g' c' j = fG h c' j := fun c' j hc hj hi ha hx => by
      refine fr c' j hc hj hi ?_
      rw [ha]
      exact nb hx
    refine (gx_iff v' (Hs_gxb E8 v')).mpr (gxg_cgb ((gx_iff v b).mp g0) q' (fun c' j hc hk hj => ?_))
    unfold gx_K at hk
    rcases hk with ⟨k, -⟩ | ⟨rfl, rfl⟩ | ⟨k, k1, k2⟩ | rfl | rfl | rfl | rfl | rfl | rfl | rfl | rfl
    · exact absurd k hc
    · exact fld 148 6 (by decide) hj (by decide +kernel) (by decide +kernel) (by decide)
    · rcases k with rfl | rfl <;> rcases (by omega : j = 4 ∨ j = 5 ∨ j = 6) with rfl | rfl | rfl
      · exact fld 3 4 (by decide) hj (by decide +kernel) (by decide +kernel) (by decide)
      · exact fld 3 5 (by decide) hj (by decide +kernel) (by decide +kernel) (by decide)
      · exact fld 3 6 (by decide) hj (by decide +kernel) (by decide +kernel) (by decide)
      · exact fld 56 4 (by decide) hj (by decide +kernel) (by decide +kernel) (by decide)
      · exact fld 56 5 (by decide) hj (by decide +kernel) (by decide +kernel) (by decide)
      · exact fld 56 6 (by decide) hj (by decide +kernel) (by decide +kernel) (by decide)
    · exact arr 2 j (by decide) (by decide +kernel) (by decide) hj
    · exact arr 153 j (by decide) (by decide +kernel) (by decide) hj
    · exact arr 150 j (by decide) (by decide +kernel) (by decide) hj
    · exact arr 152 j (by decide) (by decide +kernel) (by decide) hj
    · exact arr 6 j (by decide) (by decide +kernel) (by decide) hj
    · exact arr 7 j (by decide) (by decide +kernel) (by decide) hj
    · exact arr 59 j (by decide) (by decide +kernel) (by decide) hj
    · exact arr 60 j (by decide) (by decide +kernel) (by decide) hj
theorem ax_Aq_of {lo hi v : Nat} (h : ax_Aq (1, lo, hi) v) : ∃ z, fR z ∧ v = fI z := by
  rcases h with ⟨k, -⟩ | ⟨-, k, -⟩ | ⟨-, -, P, e, -⟩
  · cases k
  · cases k
  · exact ⟨P.toInt, ⟨by have := Int32.le_toInt P; omega, by have := Int32.toInt_lt P; omega⟩, by rw [e]; exact fI_of_toBv P⟩
theorem ax_As_i1 {l1 u1 : Nat} {cav : List Nat} (h : ax_As [(0, 1186, 0), (1, l1, u1)] cav) : ∃ z, fR z ∧ cav = [1186, fI z] := by
  match cav, h with
  | a :: l, h =>
    obtain ⟨h1, h⟩ := h
    have e : [a] = [1186] := ax_As2 (p := 1186) ⟨h1, True.intro⟩ (by decide)
    cases e
    match l, h with
    | [b], h =>
      obtain ⟨z, hz, rfl⟩ := ax_Aq_of h.1
      exact ⟨z, hz, rfl⟩
    | [], h => exact h.elim
    | _ :: _ :: _, h => exact h.2.elim
  | [], h => exact h.elim
theorem ax_As_i2 {l1 u1 l2 u2 : Nat} {cav : List Nat} (h : ax_As [(0, 1186, 0), (1, l1, u1), (1, l2, u2)] cav) : ∃ z w, fR z ∧ fR w ∧ cav = [1186, fI z, fI w] := by
  match cav, h with
  | a :: l, h =>
    obtain ⟨h1, h⟩ := h
    have e : [a] = [1186] := ax_As2 (p := 1186) ⟨h1, True.intro⟩ (by decide)
    cases e
    match l, h with
    | [b, c], h =>
      obtain ⟨z, hz, rfl⟩ := ax_Aq_of h.1
      obtain ⟨w, hw, rfl⟩ := ax_Aq_of h.2.1
      exact ⟨z, w, hz, hw, rfl⟩
    | [], h => exact h.elim
    | [_], h => exact h.2.elim
    | _ :: _ :: _ :: _, h => exact h.2.2.elim
  | [], h => exact h.elim
section FYU
variable {N : Nat} {sy : sx_Y} {c : ax_C} {md dd l1 u1 l2 u2 : Nat} {cP cB cI cG cM cO cC cT cA : ax_C}
theorem gx_starves (hv : ax_Valid N sy c) (h1 : c.1 = 393) (h2 : c.2.2.1 = [(0, 1186, 0), (1, l1, u1)]) (hd : dd + 1 ≤ c.2.1) (h3 : 3 ≤ dd) (hmd : ∀ i, i ≠ 5120 → ax_tb c.2.2.2.2.1 i = true → ax_tb md i = true) (hfr : gx_fb.all (fun q => !ax_tb c.2.2.2.2.1 (ax_bit q.2.2 q.1 q.2.1)) = true) (kP : KD N sy 267 dd cP) (kB : KD N sy 293 dd cB) (kI : KC N sy 300 [(0, 1186, 0), (1, 2147483648, 2147483655)] dd cI) (kG : KC N sy 337 [(0, 1186, 0), (1, 2147483648, 2147483708), (1, 2147483648, 2147483649)] dd cG) (kM : KC N sy 299 [(0, 1186, 0), (1, 2147483648, 2147483655)] dd cM) : ax_Valid N sy (c.1, c.2.1, c.2.2.1, c.2.2.2.1, md, c.2.2.2.2.2.1, c.2.2.2.2.2.2) :=
  gx_validm hv hmd hd hfr (fun W e1 e2 cav h g Lj a1 _ hg hx => by
    rw [h2] at a1
    obtain ⟨z, hz, rfl⟩ := ax_As_i1 a1
    rw [h1] at hx ⊢
    have hx : some [1186, fI z, 7, 7, 7] = some Lj := (f_xp (f_n4_2 (by decide)) (show 2 ≤ _ by decide +kernel)).symm.trans hx
    cases hx
    subst e1 e2
    exact sp_starves h3 (Nat.le_refl _) hz hg kP kB kI kG kM (fun v g' t => t))
theorem gx_ahead (hv : ax_Valid N sy c) (h1 : c.1 = 396) (h2 : c.2.2.1 = [(0, 1186, 0), (1, l1, u1), (1, l2, u2)]) (hd : dd + 1 ≤ c.2.1) (h3 : 3 ≤ dd) (hmd : ∀ i, i ≠ 5120 → ax_tb c.2.2.2.2.1 i = true → ax_tb md i = true) (hfr : gx_fb.all (fun q => !ax_tb c.2.2.2.2.1 (ax_bit q.2.2 q.1 q.2.1)) = true) (kP : KD N sy 267 dd cP) (kB : KD N sy 293 dd cB) (kG : KC N sy 337 [(0, 1186, 0), (1, 2147483648, 2147483708), (1, 2147483648, 2147483649)] dd cG) (kO : KC N sy 298 [(0, 1186, 0), (1, 2147483648, 2147483655), (1, 2147483648, 2147483654)] dd cO) : ax_Valid N sy (c.1, c.2.1, c.2.2.1, c.2.2.2.1, md, c.2.2.2.2.2.1, c.2.2.2.2.2.2) :=
  gx_validm hv hmd hd hfr (fun W e1 e2 cav h g Lj a1 _ hg hx => by
    rw [h2] at a1
    obtain ⟨z, w, hz, hw, rfl⟩ := ax_As_i2 a1
    rw [h1] at hx ⊢
    have hx : some [1186, fI z, fI w, 7, 7] = some Lj := (f_xp (f_n4_3 (by decide)) (show 3 ≤ _ by decide +kernel)).symm.trans hx
    cases hx
    subst e1 e2
    exact sp_ahead h3 (Nat.le_refl _) hz hw hg kP kB kG kO (fun v g' t => t))
theorem gx_trial (hv : ax_Valid N sy c) (h1 : c.1 = 398) (h2 : c.2.2.1 = [(0, 1186, 0), (1, l1, u1), (1, l2, u2)]) (hd : dd + 1 ≤ c.2.1) (h3 : 3 ≤ dd) (hmd : ∀ i, i ≠ 5120 → ax_tb c.2.2.2.2.1 i = true → ax_tb md i = true) (hfr : gx_fb.all (fun q => !ax_tb c.2.2.2.2.1 (ax_bit q.2.2 q.1 q.2.1)) = true) (kP : KD N sy 267 dd cP) (kB : KD N sy 293 dd cB) (kG : KC N sy 337 [(0, 1186, 0), (1, 2147483648, 2147483708), (1, 2147483648, 2147483649)] dd cG) (kC : KC N sy 399 [(0, 1186, 0)] dd cC) (kT : KC N sy 400 [(0, 1186, 0)] dd cT) : ax_Valid N sy (c.1, c.2.1, c.2.2.1, c.2.2.2.1, md, c.2.2.2.2.2.1, c.2.2.2.2.2.2) :=
  gx_validm hv hmd hd hfr (fun W e1 e2 cav h g Lj a1 _ hg hx => by
    rw [h2] at a1
    obtain ⟨z, w, hz, hw, rfl⟩ := ax_As_i2 a1
    rw [h1] at hx ⊢
    have hx : some [1186, fI z, fI w, 7, 7] = some Lj := (f_xp (f_n4_3 (by decide)) (show 3 ≤ _ by decide +kernel)).symm.trans hx
    cases hx
    subst e1 e2
    exact sp_trial h3 (Nat.le_refl _) hz hw hg kP kB kG kC kT (fun v g' t => t))
theorem gx_span (hv : ax_Valid N sy c) (h1 : c.1 = 401) (h2 : c.2.2.1 = [(0, 1186, 0), (1, l1, u1), (1, l2, u2)]) (hd : dd + 1 ≤ c.2.1) (h3 : 3 ≤ dd) (hmd : ∀ i, i ≠ 5120 → ax_tb c.2.2.2.2.1 i = true → ax_tb md i = true) (hfr : gx_fb.all (fun q => !ax_tb c.2.2.2.2.1 (ax_bit q.2.2 q.1 q.2.1)) = true) (kP : KD N sy 267 dd cP) (kB : KD N sy 293 dd cB) (kG : KC N sy 337 [(0, 1186, 0), (1, 2147483648, 2147483708), (1, 2147483648, 2147483649)] dd cG) (kA : KC N sy 402 [(0, 1186, 0)] dd cA) : ax_Valid N sy (c.1, c.2.1, c.2.2.1, c.2.2.2.1, md, c.2.2.2.2.2.1, c.2.2.2.2.2.2) :=
  gx_validm hv hmd hd hfr (fun W e1 e2 cav h g Lj a1 _ hg hx => by
    rw [h2] at a1
    obtain ⟨z, w, hz, hw, rfl⟩ := ax_As_i2 a1
    rw [h1] at hx ⊢
    have hx : some [1186, fI z, fI w, 7, 7, 7, 7] = some Lj := (f_xp (f_n4_3 (by decide)) (show 3 ≤ _ by decide +kernel)).symm.trans hx
    cases hx
    subst e1 e2
    exact sp_span h3 (Nat.le_refl _) hz hw hg kP kB kG kA (fun v g' t => t))
end FYU
/-- a number with the bit more, and without -/
theorem gx_mb {m' m : Nat} (h : Nat.beq m' (Nat.lor m (2 ^ 5120)) = true) : ∀ i, i ≠ 5120 → ax_tb m' i = true → ax_tb m i = true := fun i hi ht => by
  have h : m' = m ||| 2 ^ 5120 := sx_beq h
  have tb : ∀ n, ax_tb n i = Nat.testBit n i := fun n => by
    unfold ax_tb Nat.testBit
    show Nat.beq ((n >>> i) % 2) 1 = (1 &&& n >>> i != 0)
    rw [Nat.one_and_eq_mod_two]
    rcases Nat.mod_two_eq_zero_or_one (n >>> i) with e | e <;> rw [e] <;> rfl
  rw [tb, h, Nat.testBit_or, Nat.testBit_two_pow_of_ne (by omega), Bool.or_false] at ht
  rw [tb]
  exact ht
