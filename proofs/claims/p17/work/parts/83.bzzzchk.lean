/-! ax: a contract that was held against its method's run is valid -/
theorem ax_Ls.app {ρ : List Nat} : ∀ {a ca b cb : List Nat}, ax_Ls ρ a ca → ax_Ls ρ b cb → ax_Ls ρ (a ++ b) (ca ++ cb)
  | [], [], _, _, _, h => h
  | _ :: _, _ :: _, _, _, h1, h => ⟨h1.1, ax_Ls.app h1.2 h⟩
  | [], _ :: _, _, _, h1, _ => h1.elim
  | _ :: _, [], _, _, h1, _ => h1.elim
theorem ax_Ls.rev {ρ : List Nat} : ∀ {a ca : List Nat}, ax_Ls ρ a ca → ax_Ls ρ a.reverse ca.reverse
  | [], [], h => h
  | _ :: _, _ :: _, h => by
    rw [List.reverse_cons, List.reverse_cons]
    exact (ax_Ls.rev h.2).app (ax_Ls.cons h.1 ax_Ls.nil)
  | [], _ :: _, h => h.elim
  | _ :: _, [], h => h.elim
theorem ax_V.re {ρ ρ' : List Nat} {a v : Nat} (h : ax_V ρ a v) (t : a % 8 ≠ 1) : ax_V ρ' a v := by
  rcases h with ⟨h1, P, ⟨h2, h3 | ⟨h3, -⟩⟩, h4⟩ | h
  · exact Or.inl ⟨h1, P, ⟨h2, Or.inl h3⟩, h4⟩
  · exact absurd h3 t
  · exact Or.inr h
section AXChk
variable {outs : List ax_O}
theorem ax_sa_ok {K : List Nat → ax_Y → Nat → ax_R} : ∀ {as : List (Nat × Nat × Nat)} {Y : ax_Y} {n : Nat} {acc cav cacc ρ : List Nat}, ax_sa as Y n acc K = some outs → ax_Yk ρ Y n → ax_Ls ρ acc cacc → ax_As as cav → ∃ ρ' av Y' n', K av Y' n' = some outs ∧ ρ <+: ρ' ∧ ax_Yk ρ' Y' n' ∧ ax_Ls ρ' av (cacc.reverse ++ cav)
  | [], Y, n, acc, [], cacc, ρ, h, hY, hA, _ => ⟨ρ, acc.reverse, Y, n, h, List.prefix_rfl, hY, by rw [List.append_nil]; exact hA.rev⟩
  | [], Y, n, acc, _ :: _, cacc, ρ, h, hY, hA, H => H.elim
  | _ :: _, Y, n, acc, [], cacc, ρ, h, hY, hA, H => H.elim
  | q :: as, Y, n, acc, v :: cav, cacc, ρ, h, hY, hA, H => by
    have h : sx_if (Nat.beq q.1 0) (sx_if (Nat.beq (sx_tg q.2.1) 1) none (ax_sa as Y n (q.2.1 :: acc) K)) (sx_if (Nat.beq q.1 2) (ax_sa as Y n (23 :: acc) K) (ax_fr Y n q.2.1 q.2.2 0 0 0 0 (fun v Y n => ax_sa as Y n (v :: acc) K))) = some outs := h
    have fin : ∀ {a : Nat} {Y1 : ax_Y} {n1 : Nat} {ρ1 : List Nat}, ax_sa as Y1 n1 (a :: acc) K = some outs → ρ <+: ρ1 → ax_Yk ρ1 Y1 n1 → ax_V ρ1 a v → ∃ ρ' av Y' n', K av Y' n' = some outs ∧ ρ <+: ρ' ∧ ax_Yk ρ' Y' n' ∧ ax_Ls ρ' av (cacc.reverse ++ v :: cav) := by
      intro a Y1 n1 ρ1 h1 hp hY1 hv
      obtain ⟨ρ', av, Y', n', k1, k2, k3, k4⟩ := ax_sa_ok h1 hY1 (ax_Ls.cons hv (hA.mono' hp)) H.2
      rw [List.reverse_cons, List.append_assoc] at k4
      exact ⟨ρ', av, Y', n', k1, hp.trans k2, k3, k4⟩
    rcases ax_if h with ⟨c, h1⟩ | ⟨c, h1⟩
    · rcases ax_if h1 with ⟨-, h2⟩ | ⟨c1, h2⟩
      · cases h2
      · have c := sx_beq c
        rcases H.1 with ⟨-, ρ0, hv⟩ | ⟨n0, -⟩ | ⟨n0, -⟩
        · exact fin h2 List.prefix_rfl hY (hv.re (sx_beq_f c1))
        · exact absurd c n0
        · exact absurd c n0
    · have c := sx_beq_f c
      rcases ax_if h1 with ⟨c2, h2⟩ | ⟨c2, h2⟩
      · have c2 := sx_beq c2
        rcases H.1 with ⟨n0, -⟩ | ⟨-, -, hv⟩ | ⟨-, n2, -⟩
        · exact absurd n0 c
        · exact fin h2 List.prefix_rfl hY (Or.inr (Or.inr (Or.inr (Or.inr (Or.inl ⟨rfl, hv⟩)))))
        · exact absurd c2 n2
      · have c2 := sx_beq_f c2
        rcases H.1 with ⟨n0, -⟩ | ⟨-, n2, -⟩ | ⟨-, -, P, e, b1, b2⟩
        · exact absurd n0 c
        · exact absurd n2 c2
        · obtain ⟨u, k1, k2, k3⟩ := ax_fr_ok h2 hY (ax_En.plain b1 b2 (sx_b_lt P))
          exact fin k1 (List.prefix_append _ _) k2 (by rw [e]; exact ax_V.int k3)
theorem ax_sp_ok {W : ax_W} {hh : sx_H} {K : ax_M → ax_Y → Nat → ax_R} : ∀ {ps : List (Nat × Nat × Nat × Nat)} {M : ax_M} {Y : ax_Y} {n : Nat} {ρ : List Nat}, ax_sp ps M Y n K = some outs → ax_Yk ρ Y n → ax_Mk W ρ M hh → (∀ m ∈ M, m.2.2 % 8 ≤ 1) → ax_Ps ps hh → ∃ ρ' M' Y' n', K M' Y' n' = some outs ∧ ρ <+: ρ' ∧ ax_Yk ρ' Y' n' ∧ ax_Mk W ρ' M' hh ∧ ∀ m ∈ M', m.2.2 % 8 ≤ 1
  | [], M, Y, n, ρ, h, hY, hM, hi, _ => ⟨ρ, M, Y, n, h, List.prefix_rfl, hY, hM, hi⟩
  | q :: ps, M, Y, n, ρ, h, hY, hM, hi, H => by
    have h : ax_fr Y n q.2.2.1 q.2.2.2 0 0 0 0 (fun v Y n => sx_fo (Nat.mul 8 q.2.1) (fun key => ax_sp ps ((q.1, key, v) :: M) Y n K)) = some outs := h
    obtain ⟨c1, c2, P, e, b1, b2⟩ := H q List.mem_cons_self
    obtain ⟨u, k1, k2, k3⟩ := ax_fr_ok h hY (ax_En.plain b1 b2 (sx_b_lt P))
    rw [sx_fo_eq] at k1
    have hp : ρ <+: ρ ++ [sx_b P] := List.prefix_append _ _
    have l31 := ax_tk4_at q.1
    obtain ⟨ρ', M', Y', n', m1, m2, m3, m4, m5⟩ := ax_sp_ok (W := W) (hh := hh) k1 k2 (ax_wr_cons (hM.mono hp) c1 c2 (ax_J_n (by omega)) (fun _ => rfl) (by rw [e]; exact ax_V.int k3)) (fun m hm => by
      rcases List.mem_cons.mp hm with rfl | hm
      · have := k3.tag
        show u % 8 ≤ 1
        omega
      · exact hi m hm) (fun q hq => H q (List.mem_cons_of_mem _ hq))
    exact ⟨ρ', M', Y', n', m1, hp.trans m2, m3, m4, m5⟩
theorem ax_tp_ok {W : ax_W} {M0 M : ax_M} {F : ax_F} {Y : ax_Y} {n : Nat} {ρ0 ρ : List Nat} {h0 hh : sx_H} (hp : ρ0 <+: ρ) (hM0 : ax_Mk W ρ0 M0 h0) (hi : ∀ m ∈ M0, m.2.2 % 8 ≤ 1) (hY : ax_Yk ρ Y n) (hF : ax_Fk ρ F) (hM : ax_Mk W ρ M hh) : ∀ {ps : List ax_P}, ax_tp M0 M F Y n ps = true → ∀ q ∈ ps, q.1 < 160 ∧ q.2.1 < (ax_cl q.1).1 / 256 ∧ ∃ P, sx_get (sx_rd hh q.1).2 q.2.1 = sx_i P ∧ q.2.2.1 ≤ sx_b P ∧ sx_b P ≤ q.2.2.2.1 ∧ (q.2.2.2.2 ≠ 0 → ∃ O, sx_get (sx_rd h0 q.1).2 q.2.1 = sx_i O ∧ sx_b O + (q.2.2.2.2 - 1) ≤ sx_b P)
  | [], _, q, hq => by cases hq
  | p :: ps, h, q, hq => by
    have h : sx_and (sx_and (Nat.blt p.1 160) (Option.rec false (fun v => sx_and (ax_in Y n v p.2.2.1 p.2.2.2.1) (sx_if (Nat.beq p.2.2.2.2 0) true (Option.rec false (fun u => ax_le F Y n u (Nat.pred p.2.2.2.2) 40 v) (ax_mg M0 p.1 (Nat.mul 8 p.2.1))))) (ax_mg M p.1 (Nat.mul 8 p.2.1)))) (ax_tp M0 M F Y n ps) = true := h
    obtain ⟨h1, h2⟩ := sx_and_ok h
    rcases List.mem_cons.mp hq with rfl | hq
    · obtain ⟨c, h1⟩ := sx_and_ok h1
      have c : q.1 < 160 := sx_blt c
      cases hm : ax_mg M q.1 (Nat.mul 8 q.2.1) with
      | none => rw [hm] at h1; cases h1
      | some v =>
        rw [hm] at h1
        obtain ⟨k1, k2⟩ := sx_and_ok h1
        obtain ⟨l1, l2⟩ := hM.pl c hm
        obtain ⟨P, j, e⟩ := l2.toInt (ax_in_tag k1)
        have b := ax_in_ok k1 hY j
        refine ⟨c, l1, P, e, b.1, b.2, fun nz => ?_⟩
        rw [sx_beq_e nz, sx_if_f] at k2
        cases hm0 : ax_mg M0 q.1 (Nat.mul 8 q.2.1) with
        | none => rw [hm0] at k2; cases k2
        | some u =>
          rw [hm0] at k2
          have k2 : ax_le F Y n u (q.2.2.2.2 - 1) 40 v = true := k2
          obtain ⟨O, jo, eo⟩ := (hM0.pl c hm0).2.toInt (hi _ (ax_mg_mem hm0))
          exact ⟨O, eo, ax_le_ok hY hF (jo.mono hp) j k2⟩
    · exact ax_tp_ok hp hM0 hi hY hF hM h2 q hq
theorem ax_ta1_ok {fn a0 : Nat} {M0 : ax_M} {ao : ax_O} : ∀ {ts : List ax_T}, (List.rec false (fun t _ ih => sx_if (ax_t1 fn a0 M0 ao t) true ih) ts : Bool) = true → ∃ t ∈ ts, ax_t1 fn a0 M0 ao t = true
  | [], h => by cases h
  | t :: ts, h => by
    have h : sx_if (ax_t1 fn a0 M0 ao t) true (List.rec false (fun t _ ih => sx_if (ax_t1 fn a0 M0 ao t) true ih) ts) = true := h
    rcases ax_or h with k | k
    · exact ⟨t, List.mem_cons_self, k⟩
    · obtain ⟨t', h3, h4⟩ := ax_ta1_ok k
      exact ⟨t', List.mem_cons_of_mem _ h3, h4⟩
theorem ax_ta_ok {fn a0 : Nat} {M0 : ax_M} {ts : List ax_T} {ao : ax_O} : ∀ {os : List ax_O}, ax_ta fn a0 M0 ts os = true → ao ∈ os → ∃ t ∈ ts, ax_t1 fn a0 M0 ao t = true
  | [], _, hm => by cases hm
  | o :: os, h, hm => by
    have h : sx_and (List.rec false (fun t _ ih => sx_if (ax_t1 fn a0 M0 o t) true ih) ts) (ax_ta fn a0 M0 ts os) = true := h
    obtain ⟨h1, h2⟩ := sx_and_ok h
    rcases List.mem_cons.mp hm with rfl | hm
    · exact ax_ta1_ok h1
    · exact ax_ta_ok h2 hm
theorem ax_chk_ok {N : Nat} {sy : sx_Y} {g : ax_G} {c : ax_C} {en fuel : Nat} (hN : N < 2147483648) (hS : ∀ i, i < N → ∃ P e, sy[i]? = some e ∧ e.1 = sx_b P ∧ e.2.1 = sx_b P) (hV : ax_Gv N sy g) (hmd : g.1 = c.2.2.2.2.1) (hnv : g.2.2.2.2.2.1 = 0) (hlm : g.2.2.2.2.2.2.1 = 1) (h : ax_chk g c en fuel = true) : ax_Valid N sy c := by
  intro D cav hh cs ss Lj hD hA hP hs r1 r2 hx
  unfold ax_chk at h
  generalize hr : ax_sa c.2.2.1 [] 0 [] _ = res at h
  cases res with
  | none => cases h
  | some outs0 =>
    obtain ⟨ρ1, av, Y1, n1, k1, -, k3, k4⟩ := ax_sa_ok (cacc := []) hr (show ax_Yk [] [] 0 from ⟨rfl, rfl, fun k r e hk => by cases hk⟩) ax_Ls.nil hA
    have k4 : ax_Ls ρ1 av cav := k4
    let W : ax_W := (N, sy, hh, g.1, cs, ss, 1, 0)
    obtain ⟨ρ2, M0, Y2, n2, m1, m2, m3, m4, m5⟩ := ax_sp_ok (W := W) (hh := hh) k1 k3 (fun m hm => by cases hm) (fun m hm => by cases hm) hP
    rw [ax_mtK_eq] at m1
    obtain ⟨L, hL, h1⟩ := ax_opt_h m1
    obtain ⟨cL, x1, x2⟩ := ax_xp_ok hL (k4.mono' m2)
    have x1 : sx_xp cav (sx_im (sx_mt c.1).2) = some cL := x1
    rw [hx] at x1
    cases x1
    have fin : ∀ Y3, ax_Yk ρ2 Y3 n2 → ∀ o3, (Option.rec none (fun os => sx_fo (sx_ln av 0) (fun a0 => sx_if (ax_ta c.2.2.2.2.2.1 a0 M0 c.2.2.2.2.2.2 os) (some []) none)) (ax_run g fuel c.2.1 c.1 (sx_mt c.1).1 [] false 0 L [] M0 [] Y3 n2 0) : ax_R) = some o3 → ∃ co, (∃ f0, ∀ f, f0 ≤ f → sx_run N f D c.1 (sx_mt c.1).1 [] false 0 Lj [] hh 160 sy cs ss = some [co]) ∧ co.2.2.2.1 = 160 ∧ co.2.2.2.2.1 = sy ∧ ∃ t ∈ c.2.2.2.2.2.2, ax_Eq c.2.2.2.2.1 c.2.2.2.2.2.1 cav hh cs ss t co := by
      intro Y3 hY3 o3 h3
      obtain ⟨os, hos, h4⟩ := ax_opt_h h3
      rw [sx_fo_eq] at h4
      obtain ⟨hta, -⟩ := ax_if0 h4
      have hG : ax_Gk W g := ⟨rfl, hnv, hlm⟩
      have wk : ax_Wk W := ⟨hN, hS, by show cs + 1 ≤ 600002; omega, by show ss + 6 * 1 ≤ 7302232; omega⟩
      have X : ax_X W ρ2 M0 [] Y3 n2 0 hh cs ss := ⟨hY3, (fun f hf => by cases hf), m4, hs, ax_Fr_refl _ _, (fun q => by cases q), Nat.le_refl _, Nat.le_refl _, Nat.le_add_right _ _, Nat.le_add_right _ _⟩
      have hPq : ax_Pq W ρ2 os (fun co => co.2.2.2.1 = 160 ∧ co.2.2.2.2.1 = sy ∧ ∃ t ∈ c.2.2.2.2.2.2, ax_Eq c.2.2.2.2.1 c.2.2.2.2.2.1 cav hh cs ss t co) := by
        intro ao hao ρ3 co hp hO
        obtain ⟨t, ht, h5⟩ := ax_ta_ok hta hao
        obtain ⟨kd, v, aM, aF, aY, an, ath⟩ := ao
        obtain ⟨O1, O2, O3, O4, OX⟩ := hO
        refine ⟨O3, O4, t, ht, ?_⟩
        have O1 : co.1 = kd := O1
        have O2 : kd = 1 → ax_V ρ3 v co.2.1 := O2
        have OX : ax_X W ρ3 aM aF aY an ath co.2.2.1 co.2.2.2.2.2.1 co.2.2.2.2.2.2 := OX
        have h5 : sx_and (sx_and (Nat.beq kd (Nat.mod t.1 16)) (sx_if (Nat.beq t.2.1 0) true (Nat.beq kd 1))) (sx_and (Nat.ble ath (Nat.div t.1 16)) (sx_and (sx_if (Nat.beq t.2.1 1) (sx_and (ax_in aY an v t.2.2.1 t.2.2.2.1) (sx_if (Nat.beq c.2.2.2.2.2.1 1) (ax_nm aY an (sx_ln av 0) (fun a0 => ax_nm aY an v (fun v => sx_and (Nat.beq (sx_tg a0) 0) (Nat.beq v (Nat.mul 8 (ax_pc (sx_pl a0))))))) true)) (sx_if (Nat.beq t.2.1 2) (ax_lg v) true)) (ax_tp M0 aM aF aY an t.2.2.2.2))) = true := h5
        obtain ⟨a1, h5⟩ := sx_and_ok h5
        obtain ⟨a1, a2⟩ := sx_and_ok a1
        obtain ⟨a3, h5⟩ := sx_and_ok h5
        obtain ⟨a4, a5⟩ := sx_and_ok h5
        have a1 : kd = t.1 % 16 := sx_beq a1
        have a3 : ath ≤ t.1 / 16 := sx_ble a3
        have q1 : co.2.2.2.2.2.1 ≤ cs + ath := OX.r1
        have q2 : co.2.2.2.2.2.2 ≤ ss + 6 * ath := OX.r2
        have q3 : co.2.2.2.2.2.1 ≤ cs + 1 := OX.r3
        have q4 : co.2.2.2.2.2.2 ≤ ss + 6 * 1 := OX.r4
        refine ⟨by rw [O1, a1], fun e => ?_, fun e => ?_, by omega, by omega, q3, q4, OX.hs, by rw [← hmd]; exact OX.fr, ax_tp_ok hp m4 m5 OX.yk OX.fk OX.mm a5⟩
        · rw [sx_beq_e (by omega), sx_if_f] at a2
          have hv := O2 (sx_beq a2)
          rw [sx_beq_t e, sx_if_t] at a4
          obtain ⟨b1, b2⟩ := sx_and_ok a4
          obtain ⟨P, j, ev⟩ := hv.toInt (ax_in_tag b1)
          have b := ax_in_ok b1 OX.yk j
          refine ⟨P, ev, b.1, b.2, fun hf => ?_⟩
          rw [sx_beq_t hf, sx_if_t] at b2
          have ha := ((k4.mono' m2).mono' hp).ln 0
          by_cases ta : sx_ln av 0 % 8 ≤ 1
          · obtain ⟨A, ja, ea⟩ := ha.toInt ta
            obtain ⟨a', g1, ja'⟩ := ax_nm_ok (K := fun a0 => ax_nm aY an v (fun v => sx_and (Nat.beq (sx_tg a0) 0) (Nat.beq v (Nat.mul 8 (ax_pc (sx_pl a0)))))) OX.yk ja
            rw [g1] at b2
            obtain ⟨v', g2, jv'⟩ := ax_nm_ok (K := fun v => sx_and (Nat.beq (sx_tg a') 0) (Nat.beq v (Nat.mul 8 (ax_pc (sx_pl a'))))) OX.yk j
            rw [g2] at b2
            obtain ⟨b3, b4⟩ := sx_and_ok b2
            have b3 : a' % 8 = 0 := sx_beq b3
            have b4 : v' = 8 * ax_pc (sx_pl a') := sx_beq b4
            have e1 := (ja'.i0 b3).1
            rw [e1, ax_pl_i] at b4
            have e2 := (jv'.i0 (by omega)).1
            refine ⟨A, ea, ?_⟩
            rw [b4, ax_i_eq] at e2
            omega
          · rw [ax_nm_ne (by omega)] at b2
            obtain ⟨v', g2, jv'⟩ := ax_nm_ok (K := fun v => sx_and (Nat.beq (sx_tg (sx_ln av 0)) 0) (Nat.beq v (Nat.mul 8 (ax_pc (sx_pl (sx_ln av 0)))))) OX.yk j
            rw [g2] at b2
            obtain ⟨b3, -⟩ := sx_and_ok b2
            have b3 : sx_ln av 0 % 8 = 0 := sx_beq b3
            omega
        · rw [sx_beq_e (by omega), sx_if_f] at a2
          have hv := O2 (sx_beq a2)
          rw [sx_beq_e (by omega), sx_if_f, sx_beq_t e, sx_if_t] at a4
          exact hv.lg a4
      obtain ⟨co, ev, w1, w2, t, w3, w4⟩ := ax_run_ok hG hV wk fuel c.2.1 c.1 _ [] false 0 L [] M0 [] Y3 n2 0 os hos D ρ2 Lj [] hh cs ss _ hD X x2 ax_Ls.nil hPq (fun e he => by cases he)
      exact ⟨co, ev, w1, w2, t, w3, w4⟩
    rcases ax_if h1 with ⟨-, h2⟩ | ⟨-, h2⟩
    · exact fin Y2 m3 _ h2
    · rw [sx_fo_eq] at h2
      obtain ⟨P, jp, -⟩ := ((k4.mono' m2).ln (Nat.pred en)).toInt (ax_rg_tag h2)
      obtain ⟨Y3, o3, h3, -, h4⟩ := ax_en_ok h2 m3 jp
      exact fin Y3 h4 _ h3
end AXChk
