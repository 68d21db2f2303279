/-! ax: writing places -/
theorem ax_fam {i : Nat} (hi : i < 364) {s : ax_S} : (ax_sg (ax_cl 152).2.2 i i = some s → ∃ s', ax_sg (ax_cl 149).2.2 i i = some s' ∧ s'.2 = s.2) ∧ (ax_sg (ax_cl 149).2.2 i i = some s → ∃ s', ax_sg (ax_cl 152).2.2 i i = some s' ∧ s'.2 = s.2) := by
  have h := of_decide_eq_true (List.all_eq_true.mp ax_tk3_ok i (List.mem_range.mpr hi))
  constructor
  · intro q
    rw [q] at h
    cases q2 : ax_sg (ax_cl 149).2.2 i i with
    | none => rw [q2] at h; cases h
    | some s' => rw [q2] at h; exact ⟨s', rfl, (Option.some.inj h).symm⟩
  · intro q
    rw [q] at h
    cases q2 : ax_sg (ax_cl 152).2.2 i i with
    | none => rw [q2] at h; cases h
    | some s' => rw [q2] at h; exact ⟨s', rfl, Option.some.inj h⟩
theorem ax_l364 {c : Nat} (h : (ax_cl c).2.1 = 364) : (ax_cl c).2.2 = (ax_cl 152).2.2 := by
  have ht := ax_tk1_at c
  simp only [ax_tk1, Bool.and_eq_true, Bool.or_eq_true, bne_iff_ne, ne_eq, List.all_eq_true, beq_iff_eq] at ht
  exact ht.1.2.resolve_left (fun q => q h)
theorem ax_l764 {c : Nat} (h : (ax_cl c).2.1 = 764) : (ax_cl c).2.2 = (ax_cl 149).2.2 := by
  have ht := ax_tk1_at c
  simp only [ax_tk1, Bool.and_eq_true, Bool.or_eq_true, bne_iff_ne, ne_eq, List.all_eq_true, beq_iff_eq] at ht
  exact ht.2.resolve_left (fun q => q h)
def ax_Sz (s : ax_S) (z : Nat) : Prop := (s.2.1 = 0 ∧ s.2.2.1 ≤ z ∧ z ≤ s.2.2.2.1) ∨ (s.2.1 = 4 ∧ ((s.2.2.1 ≤ z ∧ z ≤ s.2.2.2.1) ∨ (s.2.2.2.2.1 ≤ z ∧ z ≤ s.2.2.2.2.2)))
theorem ax_Sz.eq {s s' : ax_S} {z : Nat} (h : ax_Sz s z) (e : s'.2 = s.2) : ax_Sz s' z := by unfold ax_Sz; rw [e]; exact h
theorem ax_mk_t {Y : ax_Y} {n x : Nat} {G : Nat → Nat → Nat → Bool} (h : ax_mk false Y n x G = true) : x % 8 = 1 := by
  unfold ax_mk at h
  cases c : sx_and (Nat.beq (sx_tg x) 1) (Nat.beq (ax_o x) 8589934592) with
  | true => exact sx_beq (sx_and_ok c).1
  | false => rw [c, sx_if_f] at h; cases h
section AXPut
variable {W : ax_W} {g : ax_G} {ρ : List Nat} {M : ax_M} {F : ax_F} {Y : ax_Y} {n : Nat} {outs : List ax_O} {hh : sx_H}
theorem ax_fm_ok {c key hi v j z : Nat} (h : ax_fm key hi (ax_cl c).2.1 v Y n = true) (hY : ax_Yk ρ Y n) (hv : ax_J ρ v z) (hJ : ax_J ρ key (2147483648 + j)) (h2 : j ≤ hi) : ax_Sk c j z := by
  unfold ax_fm at h
  rcases ax_mk_ok (df := false) (G := fun op c' k => sx_and (Nat.beq op 6) (ax_gK ax_gt c' (fun _ per' _ => sx_and (sx_and (Nat.beq (sx_tg key) 1) (sx_and (Nat.beq (sx_tg k) 1) (Nat.beq (ax_k key) (ax_k k))))
    (sx_if (sx_and (Nat.beq (ax_cl c).2.1 364) (Nat.beq per' 364)) (Nat.beq (Nat.mod (ax_o key) 364) (Nat.mod (ax_o k) 364))
      (sx_if (sx_and (Nat.beq (ax_cl c).2.1 764) (Nat.beq per' 764)) (Nat.beq key k)
        (sx_if (sx_and (Nat.beq (ax_cl c).2.1 764) (Nat.beq per' 364)) (sx_and (Nat.blt hi 364) (Nat.beq (Nat.mod (ax_o key) 364) (Nat.mod (ax_o k) 364)))
          (sx_and (sx_and (Nat.beq (ax_cl c).2.1 364) (Nat.beq per' 764)) (sx_and (ax_rg false Y n k (fun _ kh => Nat.blt kh 2147484012)) (Nat.beq (Nat.mod (ax_o key) 364) (Nat.mod (ax_o k) 364)))))))))) hY hv with q | ⟨e, q, E⟩
  · rw [q] at h; cases h
  · rw [q] at h
    obtain ⟨c6, h⟩ := sx_and_ok h
    obtain ⟨j', hJ', hS⟩ := E.2.2.2.2.2.2.2.2 (sx_beq c6)
    obtain ⟨s, hs1, hs2⟩ := hS.to
    have hs2 : ax_Sz s z := hs2
    rw [ax_gK_eq] at h
    obtain ⟨k1, h⟩ := sx_and_ok h
    obtain ⟨k1, k2⟩ := sx_and_ok k1
    obtain ⟨k2, k3⟩ := sx_and_ok k2
    have k1 : key % 8 = 1 := sx_beq k1
    have k2 : e.2.2.2.2.2 % 8 = 1 := sx_beq k2
    have k3 := sx_beq k3
    obtain ⟨r, r1, r2⟩ := hJ.t1 k1
    obtain ⟨r', r3, r4⟩ := hJ'.t1 k2
    rw [k3] at r1
    cases r1.symm.trans r3
    cases cA : sx_and (Nat.beq (ax_cl c).2.1 364) (Nat.beq (ax_cl e.2.2.2.2.1).2.1 364) with
    | true =>
      rw [cA, sx_if_t] at h
      obtain ⟨a1, a2⟩ := sx_and_ok cA
      have a1 := sx_beq a1
      have a2 := sx_beq a2
      have h : ax_o key % 364 = ax_o e.2.2.2.2.2 % 364 := sx_beq h
      have ej : j % 364 = j' % 364 := by omega
      refine ax_Sk.of ⟨s, ?_, hs2⟩
      rw [a1, ax_l364 a1, ej]
      rw [a2, ax_l364 a2] at hs1
      exact hs1
    | false =>
      rw [cA, sx_if_f] at h
      cases cB : sx_and (Nat.beq (ax_cl c).2.1 764) (Nat.beq (ax_cl e.2.2.2.2.1).2.1 764) with
      | true =>
        rw [cB, sx_if_t] at h
        obtain ⟨a1, a2⟩ := sx_and_ok cB
        have a1 := sx_beq a1
        have a2 := sx_beq a2
        have h : key = e.2.2.2.2.2 := sx_beq h
        rw [h] at r2
        have ej : j = j' := by omega
        refine ax_Sk.of ⟨s, ?_, hs2⟩
        rw [a1, ax_l764 a1, ej]
        rw [a2, ax_l764 a2] at hs1
        exact hs1
      | false =>
        rw [cB, sx_if_f] at h
        cases cC : sx_and (Nat.beq (ax_cl c).2.1 764) (Nat.beq (ax_cl e.2.2.2.2.1).2.1 364) with
        | true =>
          rw [cC, sx_if_t] at h
          obtain ⟨a1, a2⟩ := sx_and_ok cC
          have a1 := sx_beq a1
          have a2 := sx_beq a2
          obtain ⟨d1, d2⟩ := sx_and_ok h
          have d1 : hi < 364 := sx_blt d1
          have d2 : ax_o key % 364 = ax_o e.2.2.2.2.2 % 364 := sx_beq d2
          have ej : j' % 364 = j := by omega
          rw [a2, ax_l364 a2, ej] at hs1
          obtain ⟨s', z1, z2⟩ := (ax_fam (i := j) (by omega)).1 hs1
          refine ax_Sk.of ⟨s', ?_, hs2.eq z2⟩
          rw [a1, ax_l764 a1, Nat.mod_eq_of_lt (by omega)]
          exact z1
        | false =>
          rw [cC, sx_if_f] at h
          obtain ⟨cD, h⟩ := sx_and_ok h
          obtain ⟨a1, a2⟩ := sx_and_ok cD
          have a1 := sx_beq a1
          have a2 := sx_beq a2
          obtain ⟨d1, d2⟩ := sx_and_ok h
          have d2 : ax_o key % 364 = ax_o e.2.2.2.2.2 % 364 := sx_beq d2
          obtain ⟨kl, kh, w1, w2, w3⟩ := ax_rg_ok (df := false) (K := fun _ kh => Nat.blt kh 2147484012) hY hJ'
          rw [w1] at d1
          have d1 : kh < 2147484012 := sx_blt d1
          have ej : j % 364 = j' := by omega
          rw [a2, ax_l764 a2, Nat.mod_eq_of_lt (show j' < 764 by omega)] at hs1
          obtain ⟨s', z1, z2⟩ := (ax_fam (i := j') (by omega)).2 hs1
          refine ax_Sk.of ⟨s', ?_, hs2.eq z2⟩
          rw [a1, ax_l364 a1, ej]
          exact z1
theorem ax_ok_ok {c key lo hi v cv j old : Nat} (h : ax_ok key lo hi (ax_cl c).2.1 v (ax_cl c).2.2 Y n = true) (hY : ax_Yk ρ Y n) (hv : ax_V ρ v cv) (hJ : key % 8 = 1 → ax_J ρ key (2147483648 + j)) (h1 : lo ≤ j) (h2 : j ≤ hi) (hp : ax_Pk c j old) : ax_Pk c j cv := by
  unfold ax_ok at h
  cases hf : ax_fm key hi (ax_cl c).2.1 v Y n with
  | true =>
    have t : v % 8 = 1 := ax_mk_t hf
    obtain ⟨P, j1, rfl⟩ := hv.toInt (by omega)
    have kt : key % 8 = 1 := by
      unfold ax_fm at hf
      rcases ax_mk_ok (df := false) (G := fun op c' k => sx_and (Nat.beq op 6) (ax_gK ax_gt c' (fun _ per' _ => sx_and (sx_and (Nat.beq (sx_tg key) 1) (sx_and (Nat.beq (sx_tg k) 1) (Nat.beq (ax_k key) (ax_k k))))
        (sx_if (sx_and (Nat.beq (ax_cl c).2.1 364) (Nat.beq per' 364)) (Nat.beq (Nat.mod (ax_o key) 364) (Nat.mod (ax_o k) 364))
          (sx_if (sx_and (Nat.beq (ax_cl c).2.1 764) (Nat.beq per' 764)) (Nat.beq key k)
            (sx_if (sx_and (Nat.beq (ax_cl c).2.1 764) (Nat.beq per' 364)) (sx_and (Nat.blt hi 364) (Nat.beq (Nat.mod (ax_o key) 364) (Nat.mod (ax_o k) 364)))
              (sx_and (sx_and (Nat.beq (ax_cl c).2.1 364) (Nat.beq per' 764)) (sx_and (ax_rg false Y n k (fun _ kh => Nat.blt kh 2147484012)) (Nat.beq (Nat.mod (ax_o key) 364) (Nat.mod (ax_o k) 364)))))))))) hY j1 with q | ⟨e, q, E⟩
      · rw [q] at hf; cases hf
      · rw [q] at hf
        obtain ⟨-, hf⟩ := sx_and_ok hf
        rw [ax_gK_eq] at hf
        obtain ⟨k1, -⟩ := sx_and_ok hf
        obtain ⟨k1, -⟩ := sx_and_ok k1
        exact sx_beq k1
    exact (ax_fm_ok hf hY j1 (hJ kt) h2).P
  | false =>
    rw [hf, sx_if_f] at h
    cases c1 : sx_and (Nat.ble (ax_cl c).2.1 hi) (Nat.blt lo hi) with
    | true => rw [c1, sx_if_t] at h; cases h
    | false =>
      rw [c1, sx_if_f] at h
      obtain ⟨l1, l2⟩ := ax_lh h1 h2 c1
      have int : ∀ {a b : Nat}, ax_in Y n v a b = true → ∃ P, cv = sx_i P ∧ a ≤ sx_b P ∧ sx_b P ≤ b := by
        intro a b q
        obtain ⟨P, j1, e⟩ := hv.toInt (ax_in_tag q)
        exact ⟨P, e, ax_in_ok q hY j1⟩
      have ref : ax_Rk v → cv = v := fun q => (hv.toRef q.1 q.2.1).2
      obtain ⟨s, k1, k2⟩ := hp
      cases hg : ax_sg (ax_cl c).2.2 (Nat.mod lo (ax_cl c).2.1) (sx_if (Nat.beq lo hi) (Nat.mod lo (ax_cl c).2.1) hi) with
      | none =>
        rw [hg] at h
        cases hq : ax_sm (ax_cl c).2.2 (Nat.mod lo (ax_cl c).2.1) (sx_if (Nat.beq lo hi) (Nat.mod lo (ax_cl c).2.1) hi) 0 0 4294967295 with
        | none => rw [hq] at h; cases h
        | some q =>
          rw [hq] at h
          have h : ax_in Y n v q.1 q.2 = true := h
          obtain ⟨z1, z2, z3⟩ := ax_sm_ok l1 l2 (Nat.zero_le _) hq k1
          obtain ⟨P, e, b1, b2⟩ := int h
          exact ⟨s, k1, Or.inl ⟨z1, P, e, by omega, by omega⟩⟩
      | some s0 =>
        rw [hg] at h
        have es := (ax_sg_in l1 l2 hg).symm.trans k1
        have es := Option.some.inj es
        subst es
        have h : sx_if (Nat.beq s0.2.1 0) (ax_in Y n v s0.2.2.1 s0.2.2.2.1) (sx_if (Nat.beq s0.2.1 1) (Nat.beq v s0.2.2.1) (sx_if (Nat.beq s0.2.1 2) (sx_if (Nat.beq v s0.2.2.1) true (Nat.beq v s0.2.2.2.1)) (sx_if (Nat.beq s0.2.1 4) (sx_if (ax_in Y n v s0.2.2.1 s0.2.2.2.1) true (ax_in Y n v s0.2.2.2.2.1 s0.2.2.2.2.2)) false))) = true := h
        refine ⟨s0, k1, ?_⟩
        rcases k2 with ⟨k, -⟩ | ⟨k, -, b⟩ | ⟨k, -, b1, b2⟩ | ⟨k, -⟩ | ⟨k, -⟩
        · rw [sx_beq_t k, sx_if_t] at h
          exact Or.inl ⟨k, int h⟩
        · rw [k] at h
          have h := sx_beq h
          subst h
          exact Or.inr (Or.inl ⟨k, ref b, b⟩)
        · rw [k] at h
          refine Or.inr (Or.inr (Or.inl ⟨k, ?_, b1, b2⟩))
          rcases ax_or h with q | q
          · have q := sx_beq q
            subst q
            exact Or.inl (ref b1)
          · have q := sx_beq q
            subst q
            exact Or.inr (ref b2)
        · rw [k] at h; cases h
        · rw [k] at h
          refine Or.inr (Or.inr (Or.inr (Or.inr ⟨k, ?_⟩)))
          rcases ax_or h with q | q
          · obtain ⟨P, e, b⟩ := int q
            exact ⟨P, e, Or.inl b⟩
          · obtain ⟨P, e, b⟩ := int q
            exact ⟨P, e, Or.inr b⟩
/-- a place written -/
theorem ax_wr_at {c j cv hd : Nat} (hv : cv < 4722366482869645213696) : sx_get (sx_rd (sx_wr hh c (hd, sx_set (sx_rd hh c).2 j cv)) c).2 j = cv := by
  rw [sx_rd_wr]; exact sx_get_set hv
theorem ax_wr_ne {c j cv hd c' j' : Nat} (hv : cv < 4722366482869645213696) (hc : c < 160) (hc' : c' < 160) (h : ¬ (c' = c ∧ j' = j)) : sx_get (sx_rd (sx_wr hh c (hd, sx_set (sx_rd hh c).2 j cv)) c').2 j' = sx_get (sx_rd hh c').2 j' := by
  by_cases e : c' = c
  · subst e
    rw [sx_rd_wr]
    exact sx_get_set_ne hv (fun q => h ⟨rfl, q⟩)
  · rw [sx_rd_wr_ne hh _ (by omega) (by omega) e]
theorem ax_wr_hs {c j cv : Nat} (hs : ax_Hs hh) (hv : cv < 4722366482869645213696) (hc : c < 160) (hp : ax_Pk c j cv) : ax_Hs (sx_wr hh c ((ax_cl c).1, sx_set (sx_rd hh c).2 j cv)) := by
  refine ⟨fun c' h' => ?_, fun c' j' h' hj' => ?_⟩
  · by_cases e : c' = c
    · subst e; rw [sx_rd_wr]
    · rw [sx_rd_wr_ne hh _ (by omega) (by omega) e]; exact hs.hd c' h'
  · by_cases e : c' = c ∧ j' = j
    · obtain ⟨rfl, rfl⟩ := e
      rw [ax_wr_at hv]; exact hp
    · rw [ax_wr_ne hv hc h' e]; exact hs.pk c' j' h' hj'
theorem ax_wr_fr {h0 : sx_H} {md c j cv hd lo hi b : Nat} (hf : ax_Fr h0 md hh) (hv : cv < 4722366482869645213696) (hc : c < 160) (hb : ax_tb md (ax_bit (ax_ar c) c j) = true) (hk : ax_kg md c lo hi b = true) (h1 : lo ≤ j) (h2 : j ≤ hi) (h3 : c = 148 ∨ c = 3 ∨ c = 56 → lo = j) (hb0 : b = 0 → cv = 0) : ax_Fr h0 md (sx_wr hh c (hd, sx_set (sx_rd hh c).2 j cv)) := by
  refine ⟨fun c' j' h' hj' hn => ?_, fun hg j' hj' => ?_⟩
  · rw [ax_wr_ne hv hc h' (fun q => by obtain ⟨rfl, rfl⟩ := q; rw [hb] at hn; cases hn)]
    exact hf.1 c' j' h' hj' hn
  · unfold ax_kg at hk
    rw [show Nat.beq (Nat.mod (Nat.shiftRight md 5120) 2) 1 = false from hg, sx_if_f] at hk
    rw [ax_wr_ne hv hc (by decide) (fun q => by
      obtain ⟨q1, q2⟩ := q
      subst q1 q2
      have := ax_kp_ok hk
      omega)]
    exact hf.2 hg j' hj'
theorem ax_mf_ok {c lo hi : Nat} (hY : ax_Yk ρ Y n) : ∀ {M : ax_M} {m : Nat × Nat × Nat}, m ∈ ax_mf Y n c lo hi M → m ∈ M ∧ (m.1 = c → ∀ z, ax_J ρ m.2.1 z → z < lo ∨ hi < z)
  | [], m, h => by cases h
  | q :: M, m, h => by
    have h : m ∈ sx_if (Nat.beq q.1 c) (ax_rg (ax_mf Y n c lo hi M) Y n q.2.1 (fun kl kh => sx_if (sx_if (Nat.blt kh lo) true (Nat.blt hi kl)) (q :: ax_mf Y n c lo hi M) (ax_mf Y n c lo hi M))) (q :: ax_mf Y n c lo hi M) := h
    have back : m ∈ ax_mf Y n c lo hi M → m ∈ q :: M ∧ (m.1 = c → ∀ z, ax_J ρ m.2.1 z → z < lo ∨ hi < z) := fun h => by
      obtain ⟨h1, h2⟩ := ax_mf_ok hY h
      exact ⟨List.mem_cons_of_mem _ h1, h2⟩
    cases e : Nat.beq q.1 c with
    | false =>
      rw [e, sx_if_f] at h
      rcases List.mem_cons.mp h with rfl | h
      · exact ⟨List.mem_cons_self, fun q => absurd q (sx_beq_f e)⟩
      · exact back h
    | true =>
      rw [e, sx_if_t] at h
      by_cases hm : m ∈ ax_mf Y n c lo hi M
      · exact back hm
      · have : m = q := by
          unfold ax_rg at h
          cases t0 : Nat.beq (sx_tg q.2.1) 0 with
          | true =>
            rw [t0, sx_if_t, sx_fo_eq] at h
            dsimp only at h
            cases t : sx_if (Nat.blt (sx_bs (sx_pl q.2.1)) lo) true (Nat.blt hi (sx_bs (sx_pl q.2.1))) with
            | true => rw [t, sx_if_t] at h; exact (List.mem_cons.mp h).resolve_right hm
            | false => rw [t, sx_if_f] at h; exact absurd h hm
          | false =>
            rw [t0, sx_if_f] at h
            cases t1 : Nat.beq (sx_tg q.2.1) 1 with
            | false => rw [t1, sx_if_f] at h; exact absurd h hm
            | true =>
              rw [t1, sx_if_t] at h
              cases ta : ax_at Y n (ax_k q.2.1) with
              | none => rw [ta] at h; exact absurd h hm
              | some e =>
                rw [ta] at h
                have h : m ∈ sx_fo (Nat.sub (Nat.add e.1 (ax_o q.2.1)) 8589934592) (fun lo' => sx_fo (Nat.sub (Nat.add e.2.1 (ax_o q.2.1)) 8589934592) (fun hi' => sx_if (sx_if (Nat.blt hi' lo) true (Nat.blt hi lo')) (q :: ax_mf Y n c lo hi M) (ax_mf Y n c lo hi M))) := h
                rw [sx_fo_eq, sx_fo_eq] at h
                cases t : sx_if (Nat.blt (Nat.sub (Nat.add e.2.1 (ax_o q.2.1)) 8589934592) lo) true (Nat.blt hi (Nat.sub (Nat.add e.1 (ax_o q.2.1)) 8589934592)) with
                | true => rw [t, sx_if_t] at h; exact (List.mem_cons.mp h).resolve_right hm
                | false => rw [t, sx_if_f] at h; exact absurd h hm
        subst this
        refine ⟨List.mem_cons_self, fun _ z hz => ?_⟩
        obtain ⟨kl, kh, w1, w2, w3⟩ := ax_rg_ok (df := ax_mf Y n c lo hi M) (K := fun kl kh => sx_if (sx_if (Nat.blt kh lo) true (Nat.blt hi kl)) (m :: ax_mf Y n c lo hi M) (ax_mf Y n c lo hi M)) hY hz
        rw [w1] at h
        cases t : sx_if (Nat.blt kh lo) true (Nat.blt hi kl) with
        | false => rw [t, sx_if_f] at h; exact absurd h hm
        | true =>
          rcases ax_or t with q | q
          · have q : kh < lo := sx_blt q
            omega
          · have q : hi < kl := sx_blt q
            omega
theorem ax_wr_mm {c lo hi j cv hd : Nat} (hM : ax_Mk W ρ M hh) (hY : ax_Yk ρ Y n) (hv : cv < 4722366482869645213696) (hc : c < 160) (h1 : lo ≤ j) (h2 : j ≤ hi) : ax_Mk W ρ (ax_mf Y n c (Nat.add lo 2147483648) (Nat.add hi 2147483648) M) (sx_wr hh c (hd, sx_set (sx_rd hh c).2 j cv)) := fun m hm => by
  obtain ⟨m1, m2⟩ := ax_mf_ok hY hm
  rcases hM m m1 with q | ⟨q1, j', q2, q3, q4, q5⟩
  · exact Or.inl q
  · refine Or.inr ⟨q1, j', q2, q3, q4, ?_⟩
    rw [ax_wr_ne hv hc q1 (fun e => ?_)]
    · exact q5
    · have := m2 e.1 _ q3
      have l1 : Nat.add lo 2147483648 = lo + 2147483648 := rfl
      have l2 : Nat.add hi 2147483648 = hi + 2147483648 := rfl
      omega
theorem ax_wr_cons {c j key a : Nat} {H : sx_H} (hM : ax_Mk W ρ M H) (hc : c < 160) (hj : j < (ax_cl c).1 / 256) (hJ : ax_J ρ key (2147483648 + j)) (hk : ax_ar c = false → key = 8 * j) (hv : ax_V ρ a (sx_get (sx_rd H c).2 j)) : ax_Mk W ρ ((c, key, a) :: M) H := fun m hm => by
  rcases List.mem_cons.mp hm with rfl | hm
  · exact Or.inr ⟨hc, j, hj, hJ, hk, hv⟩
  · exact hM m hm
theorem ax_Pk.lt {c j v : Nat} (h : ax_Pk c j v) (hk : (∀ s ∈ (ax_cl c).2.2, s.2.1 ≠ 3) ∨ v < 4722366482869645213696) : v < 4722366482869645213696 := by
  rcases hk with hk | hk
  · obtain ⟨s, h1, h2⟩ := h
    have hi : ∀ P : Int32, sx_i P < 4722366482869645213696 := fun P => by
      have := P.toBitVec.isLt
      rw [ax_i_eq]; omega
    rcases h2 with ⟨-, P, rfl, -⟩ | ⟨-, rfl, b⟩ | ⟨-, e, b1, b2⟩ | ⟨k, -⟩ | ⟨-, P, rfl, -⟩
    · exact hi P
    · exact b.2.2.1
    · rcases e with rfl | rfl
      · exact b1.2.2.1
      · exact b2.2.2.1
    · exact absurd k (hk s (ax_sg_mem h1))
    · exact hi P
  · exact hk
end AXPut
