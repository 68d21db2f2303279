/-! ax: contracts -/
def ax_Aq (q : Nat × Nat × Nat) (v : Nat) : Prop := (q.1 = 0 ∧ ∃ ρ, ax_V ρ q.2.1 v) ∨ (q.1 ≠ 0 ∧ q.1 = 2 ∧ v % 8 = 4 ∧ v < 4722366482869645213696) ∨ (q.1 ≠ 0 ∧ q.1 ≠ 2 ∧ ∃ P, v = sx_i P ∧ q.2.1 ≤ sx_b P ∧ sx_b P ≤ q.2.2)
def ax_As : List (Nat × Nat × Nat) → List Nat → Prop
  | [], [] => True
  | q :: as, v :: cav => ax_Aq q v ∧ ax_As as cav
  | _, _ => False
def ax_Ps (ps : List (Nat × Nat × Nat × Nat)) (h : sx_H) : Prop := ∀ q ∈ ps, q.1 < 160 ∧ q.2.1 < (ax_cl q.1).1 / 256 ∧ ∃ P, sx_get (sx_rd h q.1).2 q.2.1 = sx_i P ∧ q.2.2.1 ≤ sx_b P ∧ sx_b P ≤ q.2.2.2
/-- an end against the contract's end t, entered with h0, cs0, ss0 -/
def ax_Eq (md fn : Nat) (cav : List Nat) (h0 : sx_H) (cs0 ss0 : Nat) (t : ax_T) (co : sx_O) : Prop :=
  co.1 = t.1 % 16 ∧ (t.2.1 = 1 → ∃ P, co.2.1 = sx_i P ∧ t.2.2.1 ≤ sx_b P ∧ sx_b P ≤ t.2.2.2.1 ∧ (fn = 1 → ∃ A, sx_ln cav 0 = sx_i A ∧ P.toBitVec.toNat = ax_pc A.toBitVec.toNat)) ∧ (t.2.1 = 2 → co.2.1 % 8 = 4 ∧ co.2.1 < 4722366482869645213696) ∧
  co.2.2.2.2.2.1 ≤ cs0 + t.1 / 16 ∧ co.2.2.2.2.2.2 ≤ ss0 + 6 * (t.1 / 16) ∧ co.2.2.2.2.2.1 ≤ cs0 + 1 ∧ co.2.2.2.2.2.2 ≤ ss0 + 6 ∧ ax_Hs co.2.2.1 ∧ ax_Fr h0 md co.2.2.1 ∧
  ∀ q ∈ t.2.2.2.2, q.1 < 160 ∧ q.2.1 < (ax_cl q.1).1 / 256 ∧ ∃ P, sx_get (sx_rd co.2.2.1 q.1).2 q.2.1 = sx_i P ∧ q.2.2.1 ≤ sx_b P ∧ sx_b P ≤ q.2.2.2.1 ∧ (q.2.2.2.2 ≠ 0 → ∃ O, sx_get (sx_rd h0 q.1).2 q.2.1 = sx_i O ∧ sx_b O + (q.2.2.2.2 - 1) ≤ sx_b P)
def ax_Valid (N : Nat) (sy : sx_Y) (c : ax_C) : Prop := ∀ D cav h cs ss Lj, c.2.1 ≤ D → ax_As c.2.2.1 cav → ax_Ps c.2.2.2.1 h → ax_Hs h → cs < 600002 → ss + 6 ≤ 7302232 → sx_xp cav (sx_im (sx_mt c.1).2) = some Lj →
  ∃ co, (∃ f0, ∀ f, f0 ≤ f → sx_run N f D c.1 (sx_mt c.1).1 [] false 0 Lj [] h 160 sy cs ss = some [co]) ∧ co.2.2.2.1 = 160 ∧ co.2.2.2.2.1 = sy ∧ ∃ t ∈ c.2.2.2.2.2.2, ax_Eq c.2.2.2.2.1 c.2.2.2.2.2.1 cav h cs ss t co
section AXCon
variable {W : ax_W} {ih : ax_ih} {g : ax_G} {d D mi cd : Nat} {lst : List ax_I} {pc w : Nat} {L S : List Nat} {M : ax_M} {F : ax_F} {Y : ax_Y} {n th : Nat} {ρ : List Nat} {outs : List ax_O} {hh : sx_H} {cs ss : Nat} {cL cS : List Nat} {Post : sx_O → Prop}
theorem ax_am_ok (hY : ax_Yk ρ Y n) : ∀ {as : List (Nat × Nat × Nat)} {av cav : List Nat}, ax_am Y n as av = true → ax_Ls ρ av cav → ax_As as cav
  | [], [], [], _, _ => True.intro
  | [], [], _ :: _, _, H => H.elim
  | [], _ :: _, _, h, _ => by cases h
  | _ :: _, [], _, h, _ => by cases h
  | _ :: _, _ :: _, [], _, H => H.elim
  | q :: as, a :: av, v :: cav, h, H => by
    have h : sx_and (sx_if (Nat.beq q.1 0) (Nat.beq a q.2.1) (sx_if (Nat.beq q.1 2) (ax_lg a) (ax_in Y n a q.2.1 q.2.2))) (ax_am Y n as av) = true := h
    obtain ⟨h1, h2⟩ := sx_and_ok h
    refine ⟨?_, ax_am_ok hY h2 H.2⟩
    cases c0 : Nat.beq q.1 0 with
    | true =>
      rw [c0, sx_if_t] at h1
      have e := sx_beq h1
      subst e
      exact Or.inl ⟨sx_beq c0, ρ, H.1⟩
    | false =>
      rw [c0, sx_if_f] at h1
      cases c2 : Nat.beq q.1 2 with
      | true =>
        rw [c2, sx_if_t] at h1
        exact Or.inr (Or.inl ⟨sx_beq_f c0, sx_beq c2, H.1.lg h1⟩)
      | false =>
        rw [c2, sx_if_f] at h1
        obtain ⟨P, j, e⟩ := H.1.toInt (ax_in_tag h1)
        exact Or.inr (Or.inr ⟨sx_beq_f c0, sx_beq_f c2, P, e, ax_in_ok h1 hY j⟩)
theorem ax_key {k j : Nat} (h : ax_J ρ (Nat.mul 8 k) (2147483648 + j)) : j = k := by
  have h : ax_J ρ (8 * k) (2147483648 + j) := h
  obtain ⟨h1, h2⟩ := h.t0 (by omega)
  rw [Nat.mul_div_cancel_left _ (by decide), ax_bs_eq] at h1
  have := h.1
  omega
theorem ax_Mk.pl (hM : ax_Mk W ρ M hh) {c k v : Nat} (hc : c < 160) (h : ax_mg M c (Nat.mul 8 k) = some v) : k < (ax_cl c).1 / 256 ∧ ax_V ρ v (sx_get (sx_rd hh c).2 k) := by
  rcases hM _ (ax_mg_mem h) with ⟨q, -⟩ | ⟨-, j, q1, q2, -, q3⟩
  · have q : c = 999 := q
    omega
  · have e := ax_key q2
    subst e
    exact ⟨q1, q3⟩
theorem ax_pm_ok (hY : ax_Yk ρ Y n) (hM : ax_Mk W ρ M hh) : ∀ {ps : List (Nat × Nat × Nat × Nat)}, ax_pm M Y n ps = true → ax_Ps ps hh
  | [], _ => fun q hq => by cases hq
  | p :: ps, h => fun q hq => by
    have h : sx_and (sx_and (Nat.blt p.1 160) (Option.rec false (fun v => ax_in Y n v p.2.2.1 p.2.2.2) (ax_mg M p.1 (Nat.mul 8 p.2.1)))) (ax_pm M Y n ps) = true := h
    obtain ⟨h1, h2⟩ := sx_and_ok h
    obtain ⟨h0, h1⟩ := sx_and_ok h1
    have h0 : p.1 < 160 := sx_blt h0
    rcases List.mem_cons.mp hq with rfl | hq
    · cases hm : ax_mg M q.1 (Nat.mul 8 q.2.1) with
      | none => rw [hm] at h1; cases h1
      | some v =>
        rw [hm] at h1
        have h1 : ax_in Y n v q.2.2.1 q.2.2.2 = true := h1
        obtain ⟨k1, k2⟩ := hM.pl h0 hm
        obtain ⟨P, j, e⟩ := k2.toInt (ax_in_tag h1)
        exact ⟨h0, k1, P, e, ax_in_ok h1 hY j⟩
    · exact ax_pm_ok hY hM h2 q hq
theorem ax_dr_mem {md : Nat} : ∀ {M : ax_M} {m : Nat × Nat × Nat}, m ∈ ax_dr md M → m ∈ M ∧ (m.1 = 999 ∨ ax_tb md (ax_bit (ax_ar m.1) m.1 (sx_pl m.2.1)) = false)
  | [], m, h => by cases h
  | q :: M, m, h => by
    have h : m ∈ sx_if (Nat.beq q.1 999) (q :: ax_dr md M) (ax_gK ax_gt q.1 (fun hd _ _ => sx_if (ax_tb md (ax_bit (Nat.ble 100 (Nat.mod hd 256)) q.1 (sx_pl q.2.1))) (ax_dr md M) (q :: ax_dr md M))) := h
    rw [ax_gK_eq] at h
    have back : m ∈ ax_dr md M → m ∈ q :: M ∧ (m.1 = 999 ∨ ax_tb md (ax_bit (ax_ar m.1) m.1 (sx_pl m.2.1)) = false) := fun h => ⟨List.mem_cons_of_mem _ (ax_dr_mem h).1, (ax_dr_mem h).2⟩
    cases c : Nat.beq q.1 999 with
    | true =>
      rw [c, sx_if_t] at h
      rcases List.mem_cons.mp h with rfl | h
      · exact ⟨List.mem_cons_self, Or.inl (sx_beq c)⟩
      · exact back h
    | false =>
      rw [c, sx_if_f] at h
      cases t : ax_tb md (ax_bit (Nat.ble 100 (Nat.mod (ax_cl q.1).1 256)) q.1 (sx_pl q.2.1)) with
      | true => rw [t, sx_if_t] at h; exact back h
      | false =>
        rw [t, sx_if_f] at h
        rcases List.mem_cons.mp h with rfl | h
        · exact ⟨List.mem_cons_self, Or.inr t⟩
        · exact back h
theorem ax_dr_ok {md : Nat} {h' : sx_H} (hM : ax_Mk W ρ M hh) (hf : ax_Fr hh md h') : ax_Mk W ρ (ax_dr md M) h' := fun m hm => by
  obtain ⟨m1, m2⟩ := ax_dr_mem hm
  rcases hM m m1 with q | ⟨q1, j, q2, q3, q4, q5⟩
  · exact Or.inl q
  · refine Or.inr ⟨q1, j, q2, q3, q4, ?_⟩
    have m2 : ax_tb md (ax_bit (ax_ar m.1) m.1 (sx_pl m.2.1)) = false := m2.resolve_left (by omega)
    have eb : ax_bit (ax_ar m.1) m.1 (sx_pl m.2.1) = ax_bit (ax_ar m.1) m.1 j := by
      cases ha : ax_ar m.1 with
      | true => rfl
      | false =>
        rw [q4 ha, show sx_pl (8 * j) = j from Nat.mul_div_cancel_left _ (by decide)]
    rw [eb] at m2
    rw [hf.1 m.1 j q1 q2 m2]
    exact q5
/-- the places of an end -/
theorem ax_ps_ok {h0 h1 : sx_H} {M0 : ax_M} (hM0 : ax_Mk W ρ M0 h0) : ∀ {ps : List ax_P} {ρ' : List Nat} {M : ax_M} {Y : ax_Y} {n : Nat} {K : ax_M → ax_Y → Nat → ax_R}, ax_ps M0 ps M Y n K = some outs → ρ <+: ρ' → ax_Yk ρ' Y n → ax_Mk W ρ' M h1 →
    (∀ q ∈ ps, q.1 < 160 ∧ q.2.1 < (ax_cl q.1).1 / 256 ∧ ∃ P, sx_get (sx_rd h1 q.1).2 q.2.1 = sx_i P ∧ q.2.2.1 ≤ sx_b P ∧ sx_b P ≤ q.2.2.2.1 ∧ (q.2.2.2.2 ≠ 0 → ∃ O, sx_get (sx_rd h0 q.1).2 q.2.1 = sx_i O ∧ sx_b O + (q.2.2.2.2 - 1) ≤ sx_b P)) →
    ∃ ρ'' M' Y' n', K M' Y' n' = some outs ∧ ρ' <+: ρ'' ∧ ax_Yk ρ'' Y' n' ∧ ax_Mk W ρ'' M' h1
  | [], ρ', M, Y, n, K, h, hp, hY, hM, _ => ⟨ρ', M, Y, n, h, List.prefix_rfl, hY, hM⟩
  | q :: ps, ρ', M, Y, n, K, h, hp, hY, hM, hq => by
    obtain ⟨c1, c2, P, e, b1, b2, b3⟩ := hq q List.mem_cons_self
    have h : ax_fr Y n q.2.2.1 q.2.2.2.1 (sx_if (Nat.beq q.2.2.2.2 0) 0 (Option.rec 0 (fun v => sx_if (Nat.beq (sx_tg v) 1) (Nat.succ (Nat.add v (Nat.mul 524288 (Nat.pred q.2.2.2.2)))) 0) (ax_mg M0 q.1 (Nat.mul 8 q.2.1)))) 0 0 0
      (fun v Y n => sx_fo (Nat.mul 8 q.2.1) (fun key => ax_ps M0 ps ((q.1, key, v) :: M) Y n K)) = some outs := h
    have hge : ∀ G, G = sx_if (Nat.beq q.2.2.2.2 0) 0 (Option.rec 0 (fun v => sx_if (Nat.beq (sx_tg v) 1) (Nat.succ (Nat.add v (Nat.mul 524288 (Nat.pred q.2.2.2.2)))) 0) (ax_mg M0 q.1 (Nat.mul 8 q.2.1))) → (G - 1) % 8 = 1 → ∃ z, ax_J ρ' (G - 1) z ∧ z ≤ sx_b P := by
      intro G eG hG
      cases c0 : Nat.beq q.2.2.2.2 0 with
      | true => rw [c0, sx_if_t] at eG; rw [eG] at hG; cases hG
      | false =>
        rw [c0, sx_if_f] at eG
        cases hm : ax_mg M0 q.1 (Nat.mul 8 q.2.1) with
        | none =>
          rw [hm] at eG
          have eG : G = 0 := eG
          rw [eG] at hG; cases hG
        | some v =>
          rw [hm] at eG
          have eG : G = sx_if (Nat.beq (sx_tg v) 1) (Nat.succ (Nat.add v (Nat.mul 524288 (Nat.pred q.2.2.2.2)))) 0 := eG
          cases ct : Nat.beq (sx_tg v) 1 with
          | false => rw [ct, sx_if_f] at eG; rw [eG] at hG; cases hG
          | true =>
            rw [ct, sx_if_t] at eG
            have eG : G = v + 524288 * (q.2.2.2.2 - 1) + 1 := eG
            have ct : v % 8 = 1 := sx_beq ct
            obtain ⟨O, o1, o2⟩ := b3 (sx_beq_f c0)
            have hv := (hM0.pl c1 hm).2
            obtain ⟨P0, j0, e0⟩ := hv.toInt (by omega)
            rw [o1] at e0
            have e0 : P0 = O := by
              have t1 := (sx_i_ok P0).2
              rw [← e0, (sx_i_ok O).2] at t1
              exact t1.symm
            subst e0
            have j0 := j0.mono hp
            obtain ⟨r, r1, r2⟩ := j0.t1 ct
            have lp := sx_b_lt P
            refine ⟨sx_b P0 + (q.2.2.2.2 - 1), ⟨by omega, Or.inr ⟨hG, r, ?_, ?_⟩⟩, o2⟩
            · rw [show ax_k (G - 1) = ax_k v by rw [ax_k_eq, ax_k_eq, eG]; omega]; exact r1
            · rw [ax_o_eq] at r2 ⊢
              rw [eG]
              omega
    obtain ⟨v, k1, k2, k3⟩ := ax_fr_ok (r := sx_b P) h hY ⟨⟨b1, b2⟩, sx_b_lt P, hge _ rfl, fun q => by simp at q, fun q => by simp at q, fun q => by simp at q, fun q => by simp at q, fun q => by simp at q, fun q => by simp at q⟩
    rw [sx_fo_eq] at k1
    have hp2 : ρ' <+: ρ' ++ [sx_b P] := List.prefix_append _ _
    have l31 := ax_tk4_at q.1
    have hM2 : ax_Mk W (ρ' ++ [sx_b P]) ((q.1, Nat.mul 8 q.2.1, v) :: M) h1 := ax_wr_cons (hM.mono hp2) c1 c2 (ax_J_n (by omega)) (fun _ => rfl) (by rw [e]; exact ax_V.int k3)
    obtain ⟨ρ'', M', Y', n', m1, m2, m3, m4⟩ := ax_ps_ok hM0 k1 (hp.trans hp2) k2 hM2 (fun q hq' => hq q (List.mem_cons_of_mem _ hq'))
    exact ⟨ρ'', M', Y', n', m1, hp2.trans m2, m3, m4⟩
/-- one of the ends of a contract -/
noncomputable def ax_to1 (F : ax_F) (Y : ax_Y) (n th fn a0 : Nat) (M0 M : ax_M) (q : ax_T) : ax_R :=
  sx_fo (Nat.add th (Nat.div q.1 16)) (fun th => sx_fo (Nat.mod q.1 16) (fun kd => sx_if (Nat.beq q.2.1 1) (ax_fn Y n q.2.2.1 q.2.2.2.1 (sx_if (Nat.beq fn 1) 4 0) a0 0 (fun v Y n => ax_ps M0 q.2.2.2.2 M Y n (fun M Y n => some [(kd, v, M, F, Y, n, th)])))
    (ax_ps M0 q.2.2.2.2 M Y n (fun M Y n => some [(kd, sx_if (Nat.beq q.2.1 2) 23 39, M, F, Y, n, th)]))))
theorem ax_to_mem {fn a0 : Nat} {M0 M : ax_M} {t : ax_T} : ∀ {ts : List ax_T} {outs : List ax_O}, ax_to F Y n th fn a0 M0 M ts = some outs → t ∈ ts → ∃ o', ax_to1 F Y n th fn a0 M0 M t = some o' ∧ ∀ o ∈ o', o ∈ outs
  | [], _, _, hm => by cases hm
  | q :: ts, outs, h, hm => by
    have h : ax_app (ax_to1 F Y n th fn a0 M0 M q) (ax_to F Y n th fn a0 M0 M ts) = some outs := h
    obtain ⟨o1, o2, a1, a2, rfl⟩ := ax_app_ok h
    rcases List.mem_cons.mp hm with rfl | hm
    · exact ⟨o1, a1, fun o ho => List.mem_append_left _ ho⟩
    · obtain ⟨o', b1, b2⟩ := ax_to_mem a2 hm
      exact ⟨o', b1, fun o ho => List.mem_append_right _ (b2 o ho)⟩
theorem ax_to1_ok {fn a0 md : Nat} {cav : List Nat} {t : ax_T} {co : sx_O} (wk : ax_Wk W) (X : ax_X W ρ M F Y n th hh cs ss) (h : ax_to1 F Y n th fn a0 M (ax_dr md M) t = some outs) (hmd : Nat.land md W.md = md) (hth : th < W.lim) (h160 : co.2.2.2.1 = 160) (hsy : co.2.2.2.2.1 = W.sy) (E : ax_Eq md fn cav hh cs ss t co)
    (hA : fn = 1 → ∀ A, sx_ln cav 0 = sx_i A → ax_J ρ a0 (sx_b A) ∧ 2147483648 ≤ sx_b A ∧ sx_b A < 2147483904) : ∃ ao ∈ outs, ∃ ρ', ρ <+: ρ' ∧ ax_Or W ρ' ao co := by
  obtain ⟨E1, E2, E3, E4, E5, E6, E7, E8, E9, E10⟩ := E
  unfold ax_to1 at h
  rw [sx_fo_eq, sx_fo_eq] at h
  have r1 := X.r1
  have r2 := X.r2
  have hX : ∀ {ρ' : List Nat} {M' : ax_M} {Y' : ax_Y} {n' : Nat}, ρ <+: ρ' → ax_Yk ρ' Y' n' → ax_Mk W ρ' M' co.2.2.1 → ax_X W ρ' M' F Y' n' (Nat.add th (Nat.div t.1 16)) co.2.2.1 co.2.2.2.2.2.1 co.2.2.2.2.2.2 := by
    intro ρ' M' Y' n' hp hY hM
    refine ⟨hY, X.fk.mono hp, hM, E8, ⟨fun c j hc hj hb => ?_, fun hg j' hj' => (E9.2 (ax_tb_sub hmd hg) j' hj').trans (X.fr.2 hg j' hj')⟩, fun q => (X.nv q).mono hp, ?_, ?_, ?_, ?_⟩
    · rw [E9.1 c j hc hj (ax_tb_sub hmd hb)]
      exact X.fr.1 c j hc hj hb
    · show _ ≤ W.cb + (th + t.1 / 16)
      omega
    · show _ ≤ W.sb + 6 * (th + t.1 / 16)
      omega
    · omega
    · omega
  have hM1 : ax_Mk W ρ (ax_dr md M) co.2.2.1 := ax_dr_ok X.mm E9
  rcases ax_if h with ⟨c, h1⟩ | ⟨c, h1⟩
  · obtain ⟨P, e, b1, b2, b3⟩ := E2 (sx_beq c)
    have G : ax_Got ρ outs (fun v Y n => ax_ps M t.2.2.2.2 (ax_dr md M) Y n (fun M Y n => some [(Nat.mod t.1 16, v, M, F, Y, n, Nat.add th (Nat.div t.1 16))])) (sx_b P) := by
      cases cf : Nat.beq fn 1 with
      | false =>
        rw [cf, sx_if_f] at h1
        exact ax_fn_ok h1 X.yk ⟨⟨b1, b2⟩, sx_b_lt P, fun q => by simp at q, fun q => by simp at q, fun q => by simp at q, fun q => by simp at q, fun q => by simp at q, fun q => by simp at q, fun q => by simp at q⟩ (fun _ _ _ q => absurd rfl q)
      | true =>
        rw [cf, sx_if_t] at h1
        obtain ⟨A, a1, a2⟩ := b3 (sx_beq cf)
        obtain ⟨j1, j2, j3⟩ := hA (sx_beq cf) A a1
        obtain ⟨x, x1, -, x2⟩ := ax_b_pos (P := A) j2
        have pc8 : ax_pc x ≤ 8 := by unfold ax_pc; omega
        have key : sx_b P = 2147483648 + ax_pc (sx_b A - 2147483648) := by
          rw [x1] at a2
          rw [show sx_b A - 2147483648 = x by omega, ax_b_nat (by omega), a2]
        refine ax_fn_ok h1 X.yk ⟨⟨b1, b2⟩, sx_b_lt P, fun q => by simp at q, fun q => by simp at q, fun q => by simp at q, fun q => by simp at q, fun _ => ⟨_, j1, j2, j3, key⟩, fun q => by simp at q, fun q => by simp at q⟩ ?_
        intro r' e' hE _ q1 q2 _
        obtain ⟨y, y1, y2, y3, y4⟩ := hE.2.2.2.2.2.2.1 q1
        rw [q2] at y1
        have := y1.uniq j1
        subst this
        rw [y4, key]
    obtain ⟨ρ', v, Y', n', o', g1, g2, g3, g4, g5⟩ := G
    obtain ⟨ρ'', M', Y'', n'', m1, m2, m3, m4⟩ := ax_ps_ok X.mm g1 g3 g4 (hM1.mono g3) E10
    cases m1
    refine ⟨_, g2 _ List.mem_cons_self, ρ'', g3.trans m2, E1, fun _ => ?_, h160, hsy, hX (g3.trans m2) m3 m4⟩
    rw [e]
    exact ax_V.int (g5.mono m2)
  · obtain ⟨ρ'', M', Y'', n'', m1, m2, m3, m4⟩ := ax_ps_ok X.mm h1 List.prefix_rfl X.yk hM1 E10
    cases m1
    refine ⟨_, List.mem_cons_self, ρ'', m2, E1, fun _ => ?_, h160, hsy, hX m2 m3 m4⟩
    cases c2 : Nat.beq t.2.1 2 with
    | true =>
      obtain ⟨l1, l2⟩ := E3 (sx_beq c2)
      exact Or.inr (Or.inr (Or.inr (Or.inr (Or.inl ⟨rfl, l1, l2⟩))))
    | false => exact Or.inr (Or.inr (Or.inr (Or.inr (Or.inr (Or.inr rfl)))))
end AXCon
