/-! ax: places of cells -/
theorem ax_cl_mod (c : Nat) : ax_cl c = ax_cl (c % 256) := by
  unfold ax_cl
  rw [show c % 256 / 64 % 4 = c / 64 % 4 by omega, show c % 256 / 16 % 4 = c / 16 % 4 by omega, show c % 256 / 4 % 4 = c / 4 % 4 by omega, show c % 256 % 4 = c % 4 by omega]
/-- what the table keeps to -/
def ax_tk1 (c : ax_C0) : Bool := (c.1 % 256 != 100 || c.2.2.all (fun s => s.2.1 == 0 || s.2.1 == 4)) && (c.1 % 256 != 101 || c.2.2.all (fun s => s.2.1 == 3)) && (c.2.1 != 364 || c.2.2 == (ax_cl 152).2.2) && (c.2.1 != 764 || c.2.2 == (ax_cl 149).2.2)
theorem ax_tk1_ok : (List.range 256).all (fun c => ax_tk1 (ax_cl c)) = true := by decide +kernel
theorem ax_tk2_ok : (ax_cl 152).2.1 = 364 ∧ (ax_cl 149).2.1 = 764 := by decide +kernel
theorem ax_tk3_ok : (List.range 364).all (fun i => decide ((ax_sg (ax_cl 152).2.2 i i).map (fun s => s.2) = (ax_sg (ax_cl 149).2.2 i i).map (fun s => s.2))) = true := by decide +kernel
theorem ax_tk1_at (c : Nat) : ax_tk1 (ax_cl c) = true := by
  have h := List.all_eq_true.mp ax_tk1_ok (c % 256) (List.mem_range.mpr (Nat.mod_lt _ (by decide)))
  rw [ax_cl_mod]
  exact h
theorem ax_sg_cons (s : ax_S) (l : List ax_S) (lo hi : Nat) : ax_sg (s :: l) lo hi = sx_if (Nat.blt lo s.1) (sx_if (Nat.blt hi s.1) (some s) none) (ax_sg l lo hi) := rfl
theorem ax_sg_in {lo hi j : Nat} {s : ax_S} (h1 : lo ≤ j) (h2 : j ≤ hi) : ∀ {l : List ax_S}, ax_sg l lo hi = some s → ax_sg l j j = some s
  | [], h => by cases h
  | t :: l, h => by
    rw [ax_sg_cons] at h ⊢
    cases c : Nat.blt lo t.1 with
    | true =>
      rw [c, sx_if_t] at h
      cases c2 : Nat.blt hi t.1 with
      | true =>
        rw [c2, sx_if_t] at h
        have c2 : hi < t.1 := sx_blt c2
        rw [sx_blt_t (show j < t.1 by omega), sx_if_t, sx_if_t]
        exact h
      | false => rw [c2, sx_if_f] at h; cases h
    | false =>
      rw [c, sx_if_f] at h
      have c : ¬ lo < t.1 := fun q => by rw [sx_blt_t q] at c; cases c
      rw [sx_blt_e (show ¬ j < t.1 by omega), sx_if_f]
      exact ax_sg_in h1 h2 h
theorem ax_sg_mem {lo hi : Nat} {s : ax_S} : ∀ {l : List ax_S}, ax_sg l lo hi = some s → s ∈ l
  | [], h => by cases h
  | t :: l, h => by
    rw [ax_sg_cons] at h
    cases c : Nat.blt lo t.1 with
    | true =>
      rw [c, sx_if_t] at h
      cases c2 : Nat.blt hi t.1 with
      | true => rw [c2, sx_if_t] at h; cases h; exact List.mem_cons_self
      | false => rw [c2, sx_if_f] at h; cases h
    | false => rw [c, sx_if_f] at h; exact List.mem_cons_of_mem _ (ax_sg_mem h)
theorem ax_sj_cons (s : ax_S) (l : List ax_S) (lo hi fr a b : Nat) : ax_sj (s :: l) lo hi fr a b = sx_if (Nat.ble s.1 lo) (ax_sj l lo hi s.1 a b) (sx_if (Nat.ble fr hi) (sx_if (Nat.beq s.2.1 0) (sx_fo (sx_mn a s.2.2.1) (fun a => sx_fo (sx_mx b s.2.2.2.1) (fun b => ax_sj l lo hi s.1 a b))) none) (some (a, b))) := rfl
theorem ax_sm_cons (s : ax_S) (l : List ax_S) (lo hi fr a b : Nat) : ax_sm (s :: l) lo hi fr a b = sx_if (Nat.ble s.1 lo) (ax_sm l lo hi s.1 a b) (sx_if (Nat.ble fr hi) (sx_if (Nat.beq s.2.1 0) (sx_fo (sx_mx a s.2.2.1) (fun a => sx_fo (sx_mn b s.2.2.2.1) (fun b => ax_sm l lo hi s.1 a b))) none) (some (a, b))) := rfl
theorem ax_sj_mono {lo hi : Nat} {q : Nat × Nat} : ∀ {l : List ax_S} {fr a b : Nat}, ax_sj l lo hi fr a b = some q → q.1 ≤ a ∧ b ≤ q.2
  | [], fr, a, b, h => by cases h; exact ⟨Nat.le_refl _, Nat.le_refl _⟩
  | t :: l, fr, a, b, h => by
    rw [ax_sj_cons] at h
    cases c : Nat.ble t.1 lo with
    | true => rw [c, sx_if_t] at h; exact ax_sj_mono h
    | false =>
      rw [c, sx_if_f] at h
      cases c2 : Nat.ble fr hi with
      | true =>
        rw [c2, sx_if_t] at h
        cases c3 : Nat.beq t.2.1 0 with
        | true =>
          rw [c3, sx_if_t, sx_fo_eq, sx_fo_eq, sx_mn_eq, sx_mx_eq] at h
          have := ax_sj_mono h
          omega
        | false => rw [c3, sx_if_f] at h; cases h
      | false => rw [c2, sx_if_f] at h; cases h; exact ⟨Nat.le_refl _, Nat.le_refl _⟩
theorem ax_sj_ok {lo hi j : Nat} {q : Nat × Nat} {s : ax_S} (h1 : lo ≤ j) (h2 : j ≤ hi) : ∀ {l : List ax_S} {fr a b : Nat}, fr ≤ j → ax_sj l lo hi fr a b = some q → ax_sg l j j = some s → s.2.1 = 0 ∧ q.1 ≤ s.2.2.1 ∧ s.2.2.2.1 ≤ q.2
  | [], fr, a, b, _, _, hg => by cases hg
  | t :: l, fr, a, b, hf, h, hg => by
    rw [ax_sj_cons] at h
    rw [ax_sg_cons] at hg
    cases c : Nat.ble t.1 lo with
    | true =>
      rw [c, sx_if_t] at h
      have c := sx_ble c
      rw [sx_blt_e (show ¬ j < t.1 by omega), sx_if_f] at hg
      exact ax_sj_ok h1 h2 (by omega) h hg
    | false =>
      rw [c, sx_if_f, show Nat.ble fr hi = true from Nat.ble_eq.mpr (by omega), sx_if_t] at h
      cases c3 : Nat.beq t.2.1 0 with
      | false => rw [c3, sx_if_f] at h; cases h
      | true =>
        rw [c3, sx_if_t, sx_fo_eq, sx_fo_eq, sx_mn_eq, sx_mx_eq] at h
        by_cases hj : j < t.1
        · rw [sx_blt_t hj, sx_if_t, sx_if_t] at hg
          cases hg
          have := ax_sj_mono h
          exact ⟨sx_beq c3, by omega, by omega⟩
        · rw [sx_blt_e hj, sx_if_f] at hg
          exact ax_sj_ok h1 h2 (by omega) h hg
theorem ax_sm_mono {lo hi : Nat} {q : Nat × Nat} : ∀ {l : List ax_S} {fr a b : Nat}, ax_sm l lo hi fr a b = some q → a ≤ q.1 ∧ q.2 ≤ b
  | [], fr, a, b, h => by cases h; exact ⟨Nat.le_refl _, Nat.le_refl _⟩
  | t :: l, fr, a, b, h => by
    rw [ax_sm_cons] at h
    cases c : Nat.ble t.1 lo with
    | true => rw [c, sx_if_t] at h; exact ax_sm_mono h
    | false =>
      rw [c, sx_if_f] at h
      cases c2 : Nat.ble fr hi with
      | true =>
        rw [c2, sx_if_t] at h
        cases c3 : Nat.beq t.2.1 0 with
        | true =>
          rw [c3, sx_if_t, sx_fo_eq, sx_fo_eq, sx_mn_eq, sx_mx_eq] at h
          have := ax_sm_mono h
          omega
        | false => rw [c3, sx_if_f] at h; cases h
      | false => rw [c2, sx_if_f] at h; cases h; exact ⟨Nat.le_refl _, Nat.le_refl _⟩
theorem ax_sm_ok {lo hi j : Nat} {q : Nat × Nat} {s : ax_S} (h1 : lo ≤ j) (h2 : j ≤ hi) : ∀ {l : List ax_S} {fr a b : Nat}, fr ≤ j → ax_sm l lo hi fr a b = some q → ax_sg l j j = some s → s.2.1 = 0 ∧ s.2.2.1 ≤ q.1 ∧ q.2 ≤ s.2.2.2.1
  | [], fr, a, b, _, _, hg => by cases hg
  | t :: l, fr, a, b, hf, h, hg => by
    rw [ax_sm_cons] at h
    rw [ax_sg_cons] at hg
    cases c : Nat.ble t.1 lo with
    | true =>
      rw [c, sx_if_t] at h
      have c := sx_ble c
      rw [sx_blt_e (show ¬ j < t.1 by omega), sx_if_f] at hg
      exact ax_sm_ok h1 h2 (by omega) h hg
    | false =>
      rw [c, sx_if_f, show Nat.ble fr hi = true from Nat.ble_eq.mpr (by omega), sx_if_t] at h
      cases c3 : Nat.beq t.2.1 0 with
      | false => rw [c3, sx_if_f] at h; cases h
      | true =>
        rw [c3, sx_if_t, sx_fo_eq, sx_fo_eq, sx_mn_eq, sx_mx_eq] at h
        by_cases hj : j < t.1
        · rw [sx_blt_t hj, sx_if_t, sx_if_t] at hg
          cases hg
          have := ax_sm_mono h
          exact ⟨sx_beq c3, by omega, by omega⟩
        · rw [sx_blt_e hj, sx_if_f] at hg
          exact ax_sm_ok h1 h2 (by omega) h hg
theorem ax_Sk.of {c j z : Nat} (h : ∃ s, ax_sg (ax_cl c).2.2 (j % (ax_cl c).2.1) (j % (ax_cl c).2.1) = some s ∧ ((s.2.1 = 0 ∧ s.2.2.1 ≤ z ∧ z ≤ s.2.2.2.1) ∨ (s.2.1 = 4 ∧ ((s.2.2.1 ≤ z ∧ z ≤ s.2.2.2.1) ∨ (s.2.2.2.2.1 ≤ z ∧ z ≤ s.2.2.2.2.2))))) : ax_Sk c j z := by
  unfold ax_Sk
  rw [ax_gK_eq]
  exact h
theorem ax_Sk.to {c j z : Nat} (h : ax_Sk c j z) : ∃ s, ax_sg (ax_cl c).2.2 (j % (ax_cl c).2.1) (j % (ax_cl c).2.1) = some s ∧ ((s.2.1 = 0 ∧ s.2.2.1 ≤ z ∧ z ≤ s.2.2.2.1) ∨ (s.2.1 = 4 ∧ ((s.2.2.1 ≤ z ∧ z ≤ s.2.2.2.1) ∨ (s.2.2.2.2.1 ≤ z ∧ z ≤ s.2.2.2.2.2)))) := by
  unfold ax_Sk at h
  rw [ax_gK_eq] at h
  exact h
/-- ints in arrays of ints -/
theorem ax_k100 {c j v : Nat} (hc : (ax_cl c).1 % 256 = 100) (h : ax_Pk c j v) : ∃ P, v = sx_i P ∧ ax_Sk c j (sx_b P) := by
  obtain ⟨s, h1, h2⟩ := h
  have ht := ax_tk1_at c
  simp only [ax_tk1, Bool.and_eq_true, Bool.or_eq_true, bne_iff_ne, ne_eq, List.all_eq_true, beq_iff_eq] at ht
  have hk := (ht.1.1.1.resolve_left (fun q => q hc)) s (ax_sg_mem h1)
  rcases h2 with ⟨k, P, e, b1, b2⟩ | ⟨k, -⟩ | ⟨k, -⟩ | ⟨k, -⟩ | ⟨k, P, e, b⟩
  · exact ⟨P, e, ax_Sk.of ⟨s, h1, Or.inl ⟨k, b1, b2⟩⟩⟩
  · omega
  · omega
  · omega
  · exact ⟨P, e, ax_Sk.of ⟨s, h1, Or.inr ⟨k, b⟩⟩⟩
theorem ax_Sk.P {c j : Nat} {P : Int32} (h : ax_Sk c j (sx_b P)) : ax_Pk c j (sx_i P) := by
  unfold ax_Sk at h
  rw [ax_gK_eq] at h
  obtain ⟨s, h1, h2⟩ := h
  rcases h2 with ⟨k, b1, b2⟩ | ⟨k, b⟩
  · exact ⟨s, h1, Or.inl ⟨k, P, rfl, b1, b2⟩⟩
  · exact ⟨s, h1, Or.inr (Or.inr (Or.inr (Or.inr ⟨k, P, rfl, b⟩)))⟩
theorem ax_k101 {c j v : Nat} (hc : (ax_cl c).1 % 256 = 101) (h : ax_Pk c j v) : v % 8 = 0 ∧ ∀ u, u % 8 = 0 → ax_Pk c j u := by
  obtain ⟨s, h1, h2⟩ := h
  have ht := ax_tk1_at c
  simp only [ax_tk1, Bool.and_eq_true, Bool.or_eq_true, bne_iff_ne, ne_eq, List.all_eq_true, beq_iff_eq] at ht
  have hk := (ht.1.1.2.resolve_left (fun q => q hc)) s (ax_sg_mem h1)
  rcases h2 with ⟨k, -⟩ | ⟨k, -⟩ | ⟨k, -⟩ | ⟨k, h3⟩ | ⟨k, -⟩
  · omega
  · omega
  · omega
  · exact ⟨h3, fun u hu => ⟨s, h1, Or.inr (Or.inr (Or.inr (Or.inl ⟨k, hu⟩)))⟩⟩
  · omega
/-- which stretch is read of lo to hi -/
theorem ax_lh {lo hi per j : Nat} (h1 : lo ≤ j) (h2 : j ≤ hi) (h : sx_and (Nat.ble per hi) (Nat.blt lo hi) = false) : Nat.mod lo per ≤ j % per ∧ j % per ≤ sx_if (Nat.beq lo hi) (Nat.mod lo per) hi := by
  cases c : Nat.beq lo hi with
  | true =>
    have c := sx_beq c
    have e : j = lo := by omega
    rw [sx_if_t, e]
    exact ⟨Nat.le_refl _, Nat.le_refl _⟩
  | false =>
    have c := sx_beq_f c
    rw [sx_blt_t (show lo < hi by omega)] at h
    have hp : hi < per := by
      cases c2 : Nat.ble per hi with
      | true => rw [c2] at h; cases h
      | false => exact sx_ble_f c2
    rw [sx_if_f, show Nat.mod lo per = lo from Nat.mod_eq_of_lt (by omega), Nat.mod_eq_of_lt (show j < per by omega)]
    omega
theorem ax_mg_mem {c k v : Nat} : ∀ {M : ax_M}, ax_mg M c k = some v → (c, k, v) ∈ M
  | [], h => by cases h
  | m :: M, h => by
    have h : sx_if (sx_and (Nat.beq m.1 c) (Nat.beq m.2.1 k)) (some m.2.2) (ax_mg M c k) = some v := h
    cases q : sx_and (Nat.beq m.1 c) (Nat.beq m.2.1 k) with
    | true =>
      rw [q, sx_if_t] at h
      cases h
      obtain ⟨q1, q2⟩ := sx_and_ok q
      obtain ⟨a, b, d⟩ := m
      have q1 : a = c := sx_beq q1
      have q2 : b = k := sx_beq q2
      subst q1 q2
      exact List.mem_cons_self
    | false =>
      rw [q, sx_if_f] at h
      exact List.mem_cons_of_mem _ (ax_mg_mem h)
section AXLd
variable {W : ax_W} {g : ax_G} {ρ : List Nat} {M : ax_M} {F : ax_F} {Y : ax_Y} {n : Nat} {outs : List ax_O} {hh : sx_H}
theorem ax_Mk.at (hM : ax_Mk W ρ M hh) {c key v j : Nat} (h : ax_mg M c key = some v) (hc : c < 160) (hj : ax_J ρ key (2147483648 + j)) : ax_V ρ v (sx_get (sx_rd hh c).2 j) := by
  rcases hM _ (ax_mg_mem h) with ⟨q, -⟩ | ⟨-, j', -, q2, -, q3⟩
  · have q : c = 999 := q
    omega
  · have q2 : ax_J ρ key (2147483648 + j') := q2
    have := q2.uniq hj
    have e : j' = j := by omega
    subst e
    exact q3
/-- what is read there, and what is then known -/
def ax_Red (W : ax_W) (ρ : List Nat) (hh : sx_H) (outs : List ax_O) (K : Nat → ax_M → ax_Y → Nat → ax_R) (v : Nat) : Prop := ∃ ρ' a M' Y' n' outs', K a M' Y' n' = some outs' ∧ (∀ o ∈ outs', o ∈ outs) ∧ ρ <+: ρ' ∧ ax_Yk ρ' Y' n' ∧ ax_V ρ' a v ∧ ax_Mk W ρ' M' hh
theorem ax_Red.sub {K : Nat → ax_M → ax_Y → Nat → ax_R} {v : Nat} {o1 : List ax_O} (h : ax_Red W ρ hh o1 K v) (hs : ∀ o ∈ o1, o ∈ outs) : ax_Red W ρ hh outs K v := by
  obtain ⟨ρ', a, M', Y', n', o', h1, h2, h3⟩ := h
  exact ⟨ρ', a, M', Y', n', o', h1, fun o ho => hs o (h2 o ho), h3⟩
theorem ax_ld_ok {arr : Bool} {c key lo hi j : Nat} {K : Nat → ax_M → ax_Y → Nat → ax_R} (h : ax_ld g arr c key lo hi (ax_cl c).2.1 (ax_cl c).2.2 M Y n K = some outs) (hY : ax_Yk ρ Y n) (hM : ax_Mk W ρ M hh) (hs : ax_Hs hh) (hc : c < 160) (hj : j < (ax_cl c).1 / 256) (hJ : ax_J ρ key (2147483648 + j)) (hk : ax_ar c = false → key = 8 * j) (h1 : lo ≤ j) (h2 : j ≤ hi) (h100 : lo < hi → (ax_cl c).1 % 256 = 100) : ax_Red W ρ hh outs K (sx_get (sx_rd hh c).2 j) := by
  have hp := hs.pk c j hc hj
  have mem : ∀ {ρ' : List Nat} {a : Nat} {b : Bool}, ρ <+: ρ' → ax_V ρ' a (sx_get (sx_rd hh c).2 j) → ax_Mk W ρ' (sx_if b M ((c, key, a) :: M)) hh := by
    intro ρ' a b hp hv
    cases b with
    | true => exact hM.mono hp
    | false =>
      intro m hm
      rcases List.mem_cons.mp hm with rfl | hm
      · exact Or.inr ⟨hc, j, hj, hJ.mono hp, hk, hv⟩
      · exact hM.mono hp m hm
  have got : ∀ {P : Int32} {o1 : List ax_O}, sx_get (sx_rd hh c).2 j = sx_i P → ax_Got ρ o1 (fun v Y n => K v (sx_if (sx_and arr (Nat.beq g.2.1 0)) M ((c, key, v) :: M)) Y n) (sx_b P) → ax_Red W ρ hh o1 K (sx_get (sx_rd hh c).2 j) := by
    intro P o1 e G
    obtain ⟨ρ', v, Y', n', o', g1, g2, g3, g4, g5⟩ := G
    have hv : ax_V ρ' v (sx_get (sx_rd hh c).2 j) := by rw [e]; exact ax_V.int g5
    exact ⟨ρ', v, _, Y', n', o', g1, g2, g3, g4, hv, mem g3 hv⟩
  unfold ax_ld at h
  cases hm : ax_mg M c key with
  | some v =>
    rw [hm] at h
    exact ⟨ρ, v, M, Y, n, outs, h, fun _ h => h, List.prefix_rfl, hY, hM.at hm hc hJ, hM⟩
  | none =>
    rw [hm] at h
    rcases ax_if (outs := outs) h with ⟨c1, h⟩ | ⟨c1, h⟩
    · obtain ⟨-, c1⟩ := sx_and_ok c1
      obtain ⟨P, e, hk⟩ := ax_k100 (h100 (sx_blt c1)) hp
      obtain ⟨v, a1, a2, a3⟩ := ax_fr_ok (r := sx_b P) h hY ⟨⟨Nat.zero_le _, by have := sx_b_lt P; show _ ≤ 4294967295; omega⟩, sx_b_lt P, fun q => by simp at q, fun q => by simp at q, fun q => by simp at q, fun q => by simp at q, fun q => by simp at q, fun q => by simp at q, fun _ => ⟨j, hJ, hk⟩⟩
      exact got e ⟨_, v, _, _, outs, a1, fun _ h => h, List.prefix_append _ _, a2, a3⟩
    · obtain ⟨l1, l2⟩ := ax_lh h1 h2 c1
      cases hg : ax_sg (ax_cl c).2.2 (Nat.mod lo (ax_cl c).2.1) (sx_if (Nat.beq lo hi) (Nat.mod lo (ax_cl c).2.1) hi) with
      | none =>
        rw [hg] at h
        obtain ⟨q, hq, h⟩ := ax_opt_h (outs := outs) h
        obtain ⟨s, k1, k2⟩ := hp
        obtain ⟨z1, z2, z3⟩ := ax_sj_ok l1 l2 (Nat.zero_le _) hq k1
        rcases k2 with ⟨-, P, e, b1, b2⟩ | ⟨k, -⟩ | ⟨k, -⟩ | ⟨k, -⟩ | ⟨k, -⟩
        · have hk : ax_Sk c j (sx_b P) := by
            unfold ax_Sk
            rw [ax_gK_eq]
            exact ⟨s, k1, Or.inl ⟨z1, b1, b2⟩⟩
          obtain ⟨v, a1, a2, a3⟩ := ax_fr_ok (r := sx_b P) h hY ⟨⟨by show q.1 ≤ _; omega, by show _ ≤ q.2; omega⟩, sx_b_lt P, fun q => by simp at q, fun q => by simp at q, fun q => by simp at q, fun q => by simp at q, fun q => by simp at q, fun q => by simp at q, fun _ => ⟨j, hJ, hk⟩⟩
          exact got e ⟨_, v, _, _, outs, a1, fun _ h => h, List.prefix_append _ _, a2, a3⟩
        all_goals omega
      | some s0 =>
        rw [hg] at h
        obtain ⟨s, k1, k2⟩ := hp
        have es := (ax_sg_in l1 l2 hg).symm.trans k1
        cases es
        rcases ax_if (outs := outs) h with ⟨q, h⟩ | ⟨q, h⟩
        · have q := sx_beq q
          rcases k2 with ⟨-, P, e, b1, b2⟩ | ⟨k, -⟩ | ⟨k, -⟩ | ⟨k, -⟩ | ⟨k, -⟩
          · exact got e (ax_fn_plain h hY b1 b2 (sx_b_lt P))
          all_goals omega
        · have q := sx_beq_f q
          rcases ax_if (outs := outs) h with ⟨q1, h⟩ | ⟨q1, h⟩
          · have q1 := sx_beq q1
            rcases k2 with ⟨k, -⟩ | ⟨-, e, b⟩ | ⟨k, -⟩ | ⟨k, -⟩ | ⟨k, -⟩
            · omega
            · exact ⟨ρ, _, M, Y, n, outs, h, fun _ h => h, List.prefix_rfl, hY, by rw [e]; exact ax_V.ref b, hM⟩
            all_goals omega
          · have q1 := sx_beq_f q1
            rcases ax_if (outs := outs) h with ⟨q2, h⟩ | ⟨q2, h⟩
            · have q2 := sx_beq q2
              obtain ⟨o1, o2, a1, a2, rfl⟩ := ax_app_ok h
              rcases k2 with ⟨k, -⟩ | ⟨k, -⟩ | ⟨-, e, b1, b2⟩ | ⟨k, -⟩ | ⟨k, -⟩
              · omega
              · omega
              · rcases e with e | e
                · have hv : ax_V ρ s0.2.2.1 (sx_get (sx_rd hh c).2 j) := by rw [e]; exact ax_V.ref b1
                  exact ⟨ρ, _, _, Y, n, o1, a1, fun o ho => List.mem_append_left _ ho, List.prefix_rfl, hY, hv, mem (b := false) List.prefix_rfl hv⟩
                · have hv : ax_V ρ s0.2.2.2.1 (sx_get (sx_rd hh c).2 j) := by rw [e]; exact ax_V.ref b2
                  exact ⟨ρ, _, _, Y, n, o2, a2, fun o ho => List.mem_append_right _ ho, List.prefix_rfl, hY, hv, mem (b := false) List.prefix_rfl hv⟩
              all_goals omega
            · have q2 := sx_beq_f q2
              obtain ⟨q4, h⟩ := ax_if0 h
              have q4 := sx_beq q4
              obtain ⟨o1, o2, a1, a2, rfl⟩ := ax_app_ok h
              rcases k2 with ⟨k, -⟩ | ⟨k, -⟩ | ⟨k, -⟩ | ⟨k, -⟩ | ⟨-, P, e, b⟩
              · omega
              · omega
              · omega
              · omega
              · rcases b with ⟨b1, b2⟩ | ⟨b1, b2⟩
                · exact (got e (ax_fn_plain a1 hY b1 b2 (sx_b_lt P))).sub (fun o ho => List.mem_append_left _ ho)
                · exact (got e (ax_fn_plain a2 hY b1 b2 (sx_b_lt P))).sub (fun o ho => List.mem_append_right _ ho)
end AXLd
