/-! ax: heads of loops -/
section AXHead
variable {W : ax_W} {ih : ax_ih} {g : ax_G} {d D mi cd : Nat} {lst : List ax_I} {pc : Nat} {L S : List Nat} {M : ax_M} {F : ax_F} {Y : ax_Y} {n th : Nat} {ρ : List Nat} {outs : List ax_O} {hh : sx_H} {cs ss : Nat} {cL cS : List Nat} {Post : sx_O → Prop}
theorem ax_fr_h {lo hi ge op x y : Nat} {K : Nat → ax_Y → Nat → ax_R} (h : ax_fr Y n lo hi ge op x y K = some outs) : n < 65536 ∧ K (ax_sym n) ((lo, hi, ge, op, x, y) :: Y) (n + 1) = some outs := by
  unfold ax_fr at h
  obtain ⟨c, h1⟩ := ax_if0 h
  simp only [sx_fo_eq] at h1
  exact ⟨sx_blt c, h1⟩
/-- a local that changes, by what is known of it at the head -/
def ax_Lq (ρ : List Nat) (q : Nat × Nat × Nat × Nat) (v : Nat) : Prop := (q.2.1 ≤ q.2.2.1 → ∃ P, v = sx_i P ∧ q.2.1 ≤ sx_b P ∧ sx_b P ≤ q.2.2.1 ∧ (q.2.2.2 ≠ 0 → ∃ z, ax_J ρ (q.2.2.2 - 1) z ∧ z ≤ sx_b P)) ∧ (¬ q.2.1 ≤ q.2.2.1 → (q.2.1 = 1 → v % 8 ≠ 4) ∧ (q.2.1 = 2 → v % 8 = 4 ∧ v < 4722366482869645213696))
theorem ax_ln_set {L : List Nat} {i j v : Nat} (h : i < L.length) : sx_ln (L.set i v) j = if j = i then v else sx_ln L j := by
  rw [sx_ln_eq, sx_ln_eq, List.getD_eq_getElem?_getD, List.getD_eq_getElem?_getD]
  by_cases e : j = i
  · subst e
    rw [if_pos rfl, List.getElem?_set_self h]
    rfl
  · rw [if_neg e, List.getElem?_set_ne (fun q => e q.symm)]
theorem ax_ln_ne {L : List Nat} {i j v : Nat} (h : i ≠ j) : sx_ln (L.set i v) j = sx_ln L j := by
  rw [sx_ln_eq (L.set i v), sx_ln_eq L, List.getD_eq_getElem?_getD, List.getD_eq_getElem?_getD, List.getElem?_set_ne h]
theorem ax_Ls.of : ∀ {L cL : List Nat}, cL.length = L.length → (∀ i, ax_V ρ (sx_ln L i) (sx_ln cL i)) → ax_Ls ρ L cL
  | [], [], _, _ => ax_Ls.nil
  | a :: L, v :: cL, hl, h => ax_Ls.cons (h 0) (ax_Ls.of (by simpa using hl) (fun i => h (i + 1)))
  | [], _ :: _, hl, _ => by cases hl
  | _ :: _, [], hl, _ => by cases hl
theorem ax_ol_ok (L0 : List Nat) : ∀ (ls : List (Nat × Nat × Nat × Nat)) {L : List Nat} {E : List (Nat × Nat × Nat × Nat)} {Y : ax_Y} {n : Nat} {K : List Nat → List (Nat × Nat × Nat × Nat) → ax_Y → Nat → ax_R}, ax_ol L0 ls L E Y n K = some outs →
    ∃ Lh Eh Yh nh, K Lh Eh Yh nh = some outs ∧ Lh.length = L.length ∧ (∀ q ∈ E, q ∈ Eh) ∧ (∀ i, (∀ p ∈ ls, p.1 ≠ i) → sx_ln Lh i = sx_ln L i) ∧ (∀ p ∈ ls, ∃ q ∈ Eh, q.1 = p.1) ∧
      (∀ q ∈ Eh, q ∈ E ∨ ∃ p ∈ ls, q.1 = p.1 ∧ q.2.1 = p.2.1 ∧ q.2.2.1 = p.2.2.1 ∧ (q.2.2.2 = 0 ∨ (q.2.2.2 = sx_ln L0 p.1 + 1 ∧ sx_ln L0 p.1 % 8 = 1 ∧ p.2.1 ≤ p.2.2.1))) ∧
      ∀ ρb ρ cL, ρb <+: ρ → ax_Yk ρ Y n → cL.length = L.length → (∀ i, (∀ p ∈ ls, p.1 ≠ i) → ax_V ρ (sx_ln L i) (sx_ln cL i)) → (∀ q ∈ Eh, q.1 < L.length ∧ ax_Lq ρb q (sx_ln cL q.1)) → ∃ ρ1, ρ <+: ρ1 ∧ ax_Yk ρ1 Yh nh ∧ ax_Ls ρ1 Lh cL
  | [], L, E, Y, n, K, h => ⟨L, E, Y, n, h, rfl, fun _ q => q, fun _ _ => rfl, (fun _ hp => by cases hp), fun _ q => Or.inl q, fun ρb ρ cL _ hY hl hv _ => ⟨ρ, List.prefix_rfl, hY, ax_Ls.of hl (fun i => hv i (fun _ hp => by cases hp))⟩⟩
  | p :: ls, L, E, Y, n, K, h => by
    have h : sx_if (Nat.ble p.2.1 p.2.2.1) (sx_fo (sx_if (Nat.beq p.2.2.2 1) (sx_fo (sx_ln L0 p.1) (fun a => sx_if (Nat.beq (sx_tg a) 1) (Nat.succ a) 0)) 0) (fun a => ax_fr Y n p.2.1 p.2.2.1 a 0 0 0 (fun v Y n => sx_stK v L p.1 (fun L => ax_ol L0 ls L ((p.1, p.2.1, p.2.2.1, a) :: E) Y n K)))) (sx_stK (sx_if (Nat.beq p.2.1 1) 7 (sx_if (Nat.beq p.2.1 2) 23 39)) L p.1 (fun L => ax_ol L0 ls L ((p.1, p.2.1, p.2.2.1, 0) :: E) Y n K)) = some outs := h
    have fin : ∀ {v a : Nat} {Y1 : ax_Y} {n1 : Nat}, (a = 0 ∨ (a = sx_ln L0 p.1 + 1 ∧ sx_ln L0 p.1 % 8 = 1 ∧ p.2.1 ≤ p.2.2.1)) → ax_ol L0 ls (L.set p.1 v) ((p.1, p.2.1, p.2.2.1, a) :: E) Y1 n1 K = some outs →
        (∀ ρb ρ cL, ρb <+: ρ → ax_Yk ρ Y n → cL.length = L.length → ax_Lq ρb (p.1, p.2.1, p.2.2.1, a) (sx_ln cL p.1) → ∃ ρ1, ρ <+: ρ1 ∧ ax_Yk ρ1 Y1 n1 ∧ ax_V ρ1 v (sx_ln cL p.1)) → ∃ Lh Eh Yh nh, K Lh Eh Yh nh = some outs ∧ Lh.length = L.length ∧ (∀ q ∈ E, q ∈ Eh) ∧ (∀ i, (∀ p' ∈ p :: ls, p'.1 ≠ i) → sx_ln Lh i = sx_ln L i) ∧ (∀ p' ∈ p :: ls, ∃ q ∈ Eh, q.1 = p'.1) ∧
      (∀ q ∈ Eh, q ∈ E ∨ ∃ p' ∈ p :: ls, q.1 = p'.1 ∧ q.2.1 = p'.2.1 ∧ q.2.2.1 = p'.2.2.1 ∧ (q.2.2.2 = 0 ∨ (q.2.2.2 = sx_ln L0 p'.1 + 1 ∧ sx_ln L0 p'.1 % 8 = 1 ∧ p'.2.1 ≤ p'.2.2.1))) ∧
      ∀ ρb ρ cL, ρb <+: ρ → ax_Yk ρ Y n → cL.length = L.length → (∀ i, (∀ p' ∈ p :: ls, p'.1 ≠ i) → ax_V ρ (sx_ln L i) (sx_ln cL i)) → (∀ q ∈ Eh, q.1 < L.length ∧ ax_Lq ρb q (sx_ln cL q.1)) → ∃ ρ1, ρ <+: ρ1 ∧ ax_Yk ρ1 Yh nh ∧ ax_Ls ρ1 Lh cL := by
      intro v a Y1 n1 ha h1 hb
      obtain ⟨Lh, Eh, Yh, nh, k1, k2, k3, k4, k5, k6, k7⟩ := ax_ol_ok L0 ls h1
      have q0 : (p.1, p.2.1, p.2.2.1, a) ∈ Eh := k3 _ List.mem_cons_self
      rw [List.length_set] at k2
      refine ⟨Lh, Eh, Yh, nh, k1, k2, fun q hq => k3 q (List.mem_cons_of_mem _ hq), fun i hi => ?_, fun p' hp' => ?_, fun q hq => ?_, fun ρb ρ cL hp hY hl hv hE => ?_⟩
      · rw [k4 i (fun p' hp' => hi p' (List.mem_cons_of_mem _ hp'))]
        have ne : p.1 ≠ i := hi p List.mem_cons_self
        exact ax_ln_ne ne
      · rcases List.mem_cons.mp hp' with rfl | hp'
        · exact ⟨_, q0, rfl⟩
        · exact k5 p' hp'
      · rcases k6 q hq with hq | ⟨p', hp', m⟩
        · rcases List.mem_cons.mp hq with rfl | hq
          · exact Or.inr ⟨p, List.mem_cons_self, rfl, rfl, rfl, ha⟩
          · exact Or.inl hq
        · exact Or.inr ⟨p', List.mem_cons_of_mem _ hp', m⟩
      · obtain ⟨e1, e2⟩ := hE _ q0
        have e1 : p.1 < L.length := e1
        obtain ⟨ρ1, r1, r2, r3⟩ := hb ρb ρ cL hp hY hl e2
        have hv' : ∀ i, (∀ p' ∈ ls, p'.1 ≠ i) → ax_V ρ1 (sx_ln (L.set p.1 v) i) (sx_ln cL i) := fun i hi => by
          rw [ax_ln_set e1]
          by_cases e : i = p.1
          · rw [if_pos e, e]; exact r3
          · rw [if_neg e]
            refine (hv i (fun p' hp' => ?_)).mono r1
            rcases List.mem_cons.mp hp' with rfl | hp'
            · exact fun q => e q.symm
            · exact hi p' hp'
        obtain ⟨ρ2, s1, s2, s3⟩ := k7 ρb ρ1 cL (hp.trans r1) r2 (by rw [List.length_set]; exact hl) hv' (fun q hq => by rw [List.length_set]; exact hE q hq)
        exact ⟨ρ2, r1.trans s1, s2, s3⟩
    rcases ax_if h with ⟨c, h1⟩ | ⟨c, h1⟩
    · have c := sx_ble c
      rw [sx_fo_eq] at h1
      obtain ⟨n6, h2⟩ := ax_fr_h h1
      rw [sx_stK_eq] at h2
      refine fin ?_ h2 ?_
      · cases cg : Nat.beq p.2.2.2 1 with
        | false => exact Or.inl rfl
        | true =>
          rw [sx_if_t, sx_fo_eq]
          cases ct : Nat.beq (sx_tg (sx_ln L0 p.1)) 1 with
          | false => exact Or.inl rfl
          | true => exact Or.inr ⟨rfl, sx_beq ct, c⟩
      · intro ρb ρ cL hp hY hl hq
        obtain ⟨P, e, b1, b2, b3⟩ := hq.1 c
        have hE : ax_En ρ (sx_b P) (p.2.1, p.2.2.1, sx_if (Nat.beq p.2.2.2 1) (sx_fo (sx_ln L0 p.1) (fun a => sx_if (Nat.beq (sx_tg a) 1) (Nat.succ a) 0)) 0, 0, 0, 0) := by
          refine ⟨⟨b1, b2⟩, sx_b_lt P, fun q => ?_, fun q => by simp at q, fun q => by simp at q, fun q => by simp at q, fun q => by simp at q, fun q => by simp at q, fun q => by simp at q⟩
          obtain ⟨z, z1, z2⟩ := b3 (fun q0 => by
            have q0 : sx_if (Nat.beq p.2.2.2 1) (sx_fo (sx_ln L0 p.1) (fun a => sx_if (Nat.beq (sx_tg a) 1) (Nat.succ a) 0)) 0 = 0 := q0
            have q : (sx_if (Nat.beq p.2.2.2 1) (sx_fo (sx_ln L0 p.1) (fun a => sx_if (Nat.beq (sx_tg a) 1) (Nat.succ a) 0)) 0 - 1) % 8 = 1 := q
            rw [q0] at q
            cases q)
          exact ⟨z, z1.mono hp, z2⟩
        refine ⟨ρ ++ [sx_b P], List.prefix_append _ _, hY.cons hE, ?_⟩
        rw [e]
        exact ax_V.int (ax_sym_J n6 hY.1 (sx_b_lt P))
    · have c := sx_ble_f c
      rw [sx_stK_eq] at h1
      refine fin (Or.inl rfl) h1 ?_
      intro ρb ρ cL hp hY hl hq
      obtain ⟨b1, b2⟩ := hq.2 (by show ¬ p.2.1 ≤ p.2.2.1; omega)
      refine ⟨ρ, List.prefix_rfl, hY, ?_⟩
      cases c1 : Nat.beq p.2.1 1 with
      | true => exact Or.inr (Or.inr (Or.inl ⟨rfl, b1 (sx_beq c1)⟩))
      | false =>
        cases c2 : Nat.beq p.2.1 2 with
        | true => exact Or.inr (Or.inr (Or.inr (Or.inr (Or.inl ⟨rfl, b2 (sx_beq c2)⟩))))
        | false => exact Or.inr (Or.inr (Or.inr (Or.inr (Or.inr (Or.inr rfl)))))
/-- a place that changes -/
def ax_Mq (ρ : List Nat) (hh : sx_H) (q : Nat × Nat × Nat × Nat × Nat × Nat) : Prop := q.1 < 160 ∧ q.2.1 < (ax_cl q.1).1 / 256 ∧ ∃ P, sx_get (sx_rd hh q.1).2 q.2.1 = sx_i P ∧ q.2.2.2.1 ≤ sx_b P ∧ sx_b P ≤ q.2.2.2.2.1 ∧ (q.2.2.2.2.2 % 8 = 1 → ∃ z, ax_J ρ q.2.2.2.2.2 z ∧ z ≤ sx_b P)
theorem ax_om_ok (W : ax_W) (M0 : ax_M) : ∀ (ms : List (Nat × Nat × Nat × Nat)) {M : ax_M} {E : List (Nat × Nat × Nat × Nat × Nat × Nat)} {Y : ax_Y} {n : Nat} {K : ax_M → List (Nat × Nat × Nat × Nat × Nat × Nat) → ax_Y → Nat → ax_R}, ax_om M0 ms M E Y n K = some outs →
    ∃ Mh Eh Yh nh, K Mh Eh Yh nh = some outs ∧ (∀ q ∈ E, q ∈ Eh) ∧ (∀ q ∈ Eh, q ∈ E ∨ ∃ p ∈ ms, q.1 = p.1 ∧ q.2.1 = p.2.1 ∧ q.2.2.2.1 = p.2.2.1 ∧ q.2.2.2.2.1 = p.2.2.2 ∧ ax_mg M0 p.1 (Nat.mul 8 p.2.1) = some q.2.2.2.2.2) ∧
      ∀ ρb ρ hh, ρb <+: ρ → ax_Yk ρ Y n → ax_Mk W ρ M hh → (∀ q ∈ Eh, ax_Mq ρb hh q) → ∃ ρ1, ρ <+: ρ1 ∧ ax_Yk ρ1 Yh nh ∧ ax_Mk W ρ1 Mh hh ∧ ∀ q ∈ Eh, q ∈ E ∨ ax_V ρ1 q.2.2.1 (sx_get (sx_rd hh q.1).2 q.2.1)
  | [], M, E, Y, n, K, h => ⟨M, E, Y, n, h, fun _ q => q, fun _ q => Or.inl q, fun ρb ρ hh _ hY hM _ => ⟨ρ, List.prefix_rfl, hY, hM, fun _ q => Or.inl q⟩⟩
  | p :: ms, M, E, Y, n, K, h => by
    obtain ⟨a, ha, h1⟩ := ax_opt_h (o := ax_mg M0 p.1 (Nat.mul 8 p.2.1)) (f := fun a => ax_fr Y n p.2.2.1 p.2.2.2 (sx_if (Nat.beq (sx_tg a) 1) (Nat.succ a) 0) 0 0 0 (fun v Y n => sx_fo (Nat.mul 8 p.2.1) (fun key => ax_om M0 ms ((p.1, key, v) :: M) ((p.1, p.2.1, v, p.2.2.1, p.2.2.2, a) :: E) Y n K))) h
    obtain ⟨n6, h2⟩ := ax_fr_h h1
    rw [sx_fo_eq] at h2
    obtain ⟨Mh, Eh, Yh, nh, k1, k2, k3, k4⟩ := ax_om_ok W M0 ms h2
    have q0 : (p.1, p.2.1, ax_sym n, p.2.2.1, p.2.2.2, a) ∈ Eh := k2 _ List.mem_cons_self
    refine ⟨Mh, Eh, Yh, nh, k1, fun q hq => k2 q (List.mem_cons_of_mem _ hq), fun q hq => ?_, fun ρb ρ hh hp hY hM hE => ?_⟩
    · rcases k3 q hq with hq | ⟨p', hp', m⟩
      · rcases List.mem_cons.mp hq with rfl | hq
        · exact Or.inr ⟨p, List.mem_cons_self, rfl, rfl, rfl, rfl, ha⟩
        · exact Or.inl hq
      · exact Or.inr ⟨p', List.mem_cons_of_mem _ hp', m⟩
    · obtain ⟨c1, c2, P, e, b1, b2, b3⟩ := hE _ q0
      have c1 : p.1 < 160 := c1
      have c2 : p.2.1 < (ax_cl p.1).1 / 256 := c2
      have e : sx_get (sx_rd hh p.1).2 p.2.1 = sx_i P := e
      have l31 := ax_tk4_at p.1
      have hEn : ax_En ρ (sx_b P) (p.2.2.1, p.2.2.2, sx_if (Nat.beq (sx_tg a) 1) (Nat.succ a) 0, 0, 0, 0) := by
        refine ⟨⟨b1, b2⟩, sx_b_lt P, fun q => ?_, fun q => by simp at q, fun q => by simp at q, fun q => by simp at q, fun q => by simp at q, fun q => by simp at q, fun q => by simp at q⟩
        have q : (sx_if (Nat.beq (sx_tg a) 1) (Nat.succ a) 0 - 1) % 8 = 1 := q
        show ∃ z, ax_J ρ (sx_if (Nat.beq (sx_tg a) 1) (Nat.succ a) 0 - 1) z ∧ z ≤ sx_b P
        cases ct : Nat.beq (sx_tg a) 1 with
        | false => rw [ct, sx_if_f] at q; cases q
        | true =>
          obtain ⟨z, z1, z2⟩ := b3 (sx_beq ct)
          rw [sx_if_t]
          exact ⟨z, z1.mono hp, z2⟩
      have hp2 : ρ <+: ρ ++ [sx_b P] := List.prefix_append _ _
      have hJ := ax_sym_J n6 hY.1 (sx_b_lt P)
      have hV : ax_V (ρ ++ [sx_b P]) (ax_sym n) (sx_get (sx_rd hh p.1).2 p.2.1) := by rw [e]; exact ax_V.int hJ
      have hM2 : ax_Mk W (ρ ++ [sx_b P]) ((p.1, Nat.mul 8 p.2.1, ax_sym n) :: M) hh := ax_wr_cons (hM.mono hp2) c1 c2 (ax_J_n (by omega)) (fun _ => rfl) hV
      obtain ⟨ρ1, r1, r2, r3, r4⟩ := k4 ρb _ hh (hp.trans hp2) (hY.cons hEn) hM2 hE
      refine ⟨ρ1, hp2.trans r1, r2, r3, fun q hq => ?_⟩
      rcases r4 q hq with hq | hq
      · rcases List.mem_cons.mp hq with rfl | hq
        · exact Or.inr (hV.mono r1)
        · exact Or.inl hq
      · exact Or.inr hq
theorem ax_dl_mem {m : Nat × Nat × Nat} : ∀ {ms : List (Nat × Nat × Nat × Nat)} {M : ax_M}, m ∈ ax_dl ms M → m ∈ M
  | [], M, h => h
  | q :: ms, M, h => by
    have h : m ∈ (List.rec [] (fun m _ r => sx_if (sx_and (Nat.beq m.1 q.1) (Nat.beq m.2.1 (Nat.mul 8 q.2.1))) r (m :: r)) (ax_dl ms M) : ax_M) := h
    apply ax_dl_mem (ms := ms)
    revert h
    generalize ax_dl ms M = l
    intro h
    induction l with
    | nil => exact h
    | cons t l ih =>
      have h : m ∈ sx_if (sx_and (Nat.beq t.1 q.1) (Nat.beq t.2.1 (Nat.mul 8 q.2.1))) (List.rec [] (fun m _ r => sx_if (sx_and (Nat.beq m.1 q.1) (Nat.beq m.2.1 (Nat.mul 8 q.2.1))) r (m :: r)) l : ax_M) (t :: (List.rec [] (fun m _ r => sx_if (sx_and (Nat.beq m.1 q.1) (Nat.beq m.2.1 (Nat.mul 8 q.2.1))) r (m :: r)) l : ax_M)) := h
      cases c : sx_and (Nat.beq t.1 q.1) (Nat.beq t.2.1 (Nat.mul 8 q.2.1)) with
      | true => rw [c, sx_if_t] at h; exact List.mem_cons_of_mem _ (ih h)
      | false =>
        rw [c, sx_if_f] at h
        rcases List.mem_cons.mp h with rfl | h
        · exact List.mem_cons_self
        · exact List.mem_cons_of_mem _ (ih h)
theorem ax_li_ok {L : List Nat} : ∀ {ls : List (Nat × Nat × Nat × Nat)}, ax_li Y n L ls = true → ∀ q ∈ ls, q.1 < L.length ∧ (q.2.1 ≤ q.2.2.1 → ax_in Y n (sx_ln L q.1) q.2.1 q.2.2.1 = true) ∧ (¬ q.2.1 ≤ q.2.2.1 → (q.2.1 = 1 → ax_nl (sx_ln L q.1) = true) ∧ (q.2.1 = 2 → ax_lg (sx_ln L q.1) = true))
  | [], _, q, hq => by cases hq
  | p :: ls, h, q, hq => by
    have h : sx_and (sx_and (Nat.blt p.1 (List.length L)) (sx_if (Nat.ble p.2.1 p.2.2.1) (ax_in Y n (sx_ln L p.1) p.2.1 p.2.2.1) (sx_if (Nat.beq p.2.1 1) (ax_nl (sx_ln L p.1)) (sx_if (Nat.beq p.2.1 2) (ax_lg (sx_ln L p.1)) true)))) (ax_li Y n L ls) = true := h
    obtain ⟨h1, h2⟩ := sx_and_ok h
    rcases List.mem_cons.mp hq with rfl | hq
    · obtain ⟨h0, h1⟩ := sx_and_ok h1
      refine ⟨sx_blt h0, fun c => ?_, fun c => ⟨fun e => ?_, fun e => ?_⟩⟩
      · rw [show Nat.ble q.2.1 q.2.2.1 = true from Nat.ble_eq.mpr c, sx_if_t] at h1; exact h1
      · rw [sx_ble_e c, sx_if_f, sx_beq_t e, sx_if_t] at h1; exact h1
      · rw [sx_ble_e c, sx_if_f, sx_beq_e (by omega), sx_if_f, sx_beq_t e, sx_if_t] at h1; exact h1
    · exact ax_li_ok h2 q hq
theorem ax_lb_ok {L : List Nat} : ∀ {ls : List (Nat × Nat × Nat × Nat)}, ax_lb L F Y n ls = true → ∀ q ∈ ls, q.2.2.2 ≠ 0 → ax_le F Y n (q.2.2.2 - 1) 0 40 (sx_ln L q.1) = true
  | [], _, q, hq, _ => by cases hq
  | p :: ls, h, q, hq, h0 => by
    have h : sx_and (sx_if (Nat.beq p.2.2.2 0) true (ax_le F Y n (Nat.pred p.2.2.2) 0 40 (sx_ln L p.1))) (ax_lb L F Y n ls) = true := h
    obtain ⟨h1, h2⟩ := sx_and_ok h
    rcases List.mem_cons.mp hq with rfl | hq
    · rw [sx_beq_e h0, sx_if_f] at h1; exact h1
    · exact ax_lb_ok h2 q hq h0
theorem ax_lx_ok {L0 : List Nat} {K : List Nat → Bool} : ∀ {ls : List (Nat × Nat × Nat × Nat)} {L : List Nat}, ax_lx L0 ls L K = true → ∃ L', K L' = true ∧ L'.length = L.length ∧ ∀ i, (∀ q ∈ ls, q.1 ≠ i) → sx_ln L' i = sx_ln L i
  | [], L, h => ⟨L, h, rfl, fun _ _ => rfl⟩
  | p :: ls, L, h => by
    have h : sx_stK (sx_ln L0 p.1) L p.1 (fun L => ax_lx L0 ls L K) = true := h
    rw [sx_stK_eq] at h
    obtain ⟨L', h1, h2, h3⟩ := ax_lx_ok h
    refine ⟨L', h1, by rw [h2, List.length_set], fun i hi => ?_⟩
    rw [h3 i (fun q hq => hi q (List.mem_cons_of_mem _ hq))]
    have ne : p.1 ≠ i := hi p List.mem_cons_self
    exact ax_ln_ne ne
theorem ax_le7_ok : ∀ {a b : List Nat}, ax_le7 a b = true → a.length = b.length ∧ ∀ i, (sx_ln b i = 39 ∨ (sx_ln b i = 7 ∧ ax_nl (sx_ln a i) = true) ∨ (sx_ln b i = 23 ∧ ax_lg (sx_ln a i) = true) ∨ sx_ln a i = sx_ln b i)
  | [], [], _ => ⟨rfl, fun _ => Or.inr (Or.inr (Or.inr rfl))⟩
  | [], _ :: _, h => by cases h
  | _ :: _, [], h => by cases h
  | x :: a, y :: b, h => by
    have h : sx_and (sx_if (Nat.beq y 39) true (sx_if (Nat.beq y 7) (ax_nl x) (sx_if (Nat.beq y 23) (ax_lg x) (Nat.beq x y)))) (ax_le7 a b) = true := h
    obtain ⟨h1, h2⟩ := sx_and_ok h
    obtain ⟨k1, k2⟩ := ax_le7_ok h2
    refine ⟨by rw [List.length_cons, List.length_cons, k1], fun i => ?_⟩
    cases i with
    | succ i => exact k2 i
    | zero =>
      show y = 39 ∨ (y = 7 ∧ ax_nl x = true) ∨ (y = 23 ∧ ax_lg x = true) ∨ x = y
      cases c1 : Nat.beq y 39 with
      | true => exact Or.inl (sx_beq c1)
      | false =>
        rw [c1, sx_if_f] at h1
        cases c2 : Nat.beq y 7 with
        | true => rw [c2, sx_if_t] at h1; exact Or.inr (Or.inl ⟨sx_beq c2, h1⟩)
        | false =>
          rw [c2, sx_if_f] at h1
          cases c3 : Nat.beq y 23 with
          | true => rw [c3, sx_if_t] at h1; exact Or.inr (Or.inr (Or.inl ⟨sx_beq c3, h1⟩))
          | false => rw [c3, sx_if_f] at h1; exact Or.inr (Or.inr (Or.inr (sx_beq h1)))
theorem ax_mb_ok {M : ax_M} : ∀ {E : List (Nat × Nat × Nat × Nat × Nat × Nat)}, ax_mb M F Y n E = true → ∀ q ∈ E, ∃ v, ax_mg M q.1 (Nat.mul 8 q.2.1) = some v ∧ ax_in Y n v q.2.2.2.1 q.2.2.2.2.1 = true ∧ (q.2.2.2.2.2 % 8 = 1 → ax_le F Y n q.2.2.2.2.2 0 40 v = true)
  | [], _, q, hq => by cases hq
  | p :: E, h, q, hq => by
    have h : sx_and (Option.rec false (fun v => sx_and (ax_in Y n v p.2.2.2.1 p.2.2.2.2.1) (sx_if (Nat.beq (sx_tg p.2.2.2.2.2) 1) (ax_le F Y n p.2.2.2.2.2 0 40 v) true)) (ax_mg M p.1 (Nat.mul 8 p.2.1))) (ax_mb M F Y n E) = true := h
    obtain ⟨h1, h2⟩ := sx_and_ok h
    rcases List.mem_cons.mp hq with rfl | hq
    · cases hm : ax_mg M q.1 (Nat.mul 8 q.2.1) with
      | none => rw [hm] at h1; cases h1
      | some v =>
        rw [hm] at h1
        obtain ⟨k1, k2⟩ := sx_and_ok h1
        refine ⟨v, rfl, k1, fun t => ?_⟩
        rw [sx_beq_t (show sx_tg q.2.2.2.2.2 = 1 from t), sx_if_t] at k2
        exact k2
    · exact ax_mb_ok h2 q hq
theorem ax_me_ok {M : ax_M} : ∀ {M0 : ax_M}, ax_me Y n M M0 = true → ∀ m ∈ M0, ∃ v, ax_mg M m.1 m.2.1 = some v ∧ (v = m.2.2 ∨ ax_nm Y n v (fun v => ax_nm Y n m.2.2 (fun u => Nat.beq v u)) = true)
  | [], _, q, hq => by cases hq
  | p :: M0, h, q, hq => by
    have h : sx_and (Option.rec false (fun v => sx_if (Nat.beq v p.2.2) true (ax_nm Y n v (fun v => ax_nm Y n p.2.2 (fun u => Nat.beq v u)))) (ax_mg M p.1 p.2.1)) (ax_me Y n M M0) = true := h
    obtain ⟨h1, h2⟩ := sx_and_ok h
    rcases List.mem_cons.mp hq with rfl | hq
    · cases hm : ax_mg M q.1 q.2.1 with
      | none => rw [hm] at h1; cases h1
      | some v =>
        rw [hm] at h1
        refine ⟨v, rfl, ?_⟩
        rcases ax_or h1 with k | k
        · exact Or.inl (sx_beq k)
        · exact Or.inr k
    · exact ax_me_ok h2 q hq
end AXHead
