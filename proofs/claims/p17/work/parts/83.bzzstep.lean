/-! ax: a loop ends; the run is right -/
def ax_Inv (W : ax_W) (ρ : List Nat) (Lh : List Nat) (E0 : List (Nat × Nat × Nat × Nat)) (E : List (Nat × Nat × Nat × Nat × Nat × Nat)) (Mb : ax_M) (th : Nat) (cL : List Nat) (hh : sx_H) (cs ss : Nat) : Prop :=
  cL.length = Lh.length ∧ (∀ i, (∀ q ∈ E0, q.1 ≠ i) → ax_V ρ (sx_ln Lh i) (sx_ln cL i)) ∧ (∀ q ∈ E0, q.1 < Lh.length ∧ ax_Lq ρ q (sx_ln cL q.1)) ∧ (∀ q ∈ E, ax_Mq ρ hh q) ∧ ax_Mk W ρ Mb hh ∧ ax_Hs hh ∧ ax_Fr W.h0 W.md hh ∧ cs ≤ W.cb + th ∧ ss ≤ W.sb + 6 * th ∧ cs ≤ W.cb + W.lim ∧ ss ≤ W.sb + 6 * W.lim
/-- what the loop ends by -/
noncomputable def ax_mu (E : List (Nat × Nat × Nat × Nat × Nat × Nat)) (rk ix dir : Nat) (cL : List Nat) (hh : sx_H) : Nat :=
  sx_if (Nat.beq dir 1) (4294967296 - sx_if (Nat.beq rk 0) (sx_bs (sx_pl (sx_ln cL ix))) (Option.rec 0 (fun q => sx_bs (sx_pl (sx_get (sx_rd hh q.1).2 q.2.1))) (sx_nth E ix)))
    (sx_if (Nat.beq rk 0) (sx_bs (sx_pl (sx_ln cL ix))) (Option.rec 0 (fun q => sx_bs (sx_pl (sx_get (sx_rd hh q.1).2 q.2.1))) (sx_nth E ix)))
section AXStp
variable {W : ax_W} {ih : ax_ih} {g : ax_G} {d D mi cd : Nat} {lst : List ax_I} {pc : Nat} {L S : List Nat} {M : ax_M} {F : ax_F} {Y : ax_Y} {n th : Nat} {ρ : List Nat} {outs : List ax_O} {hh : sx_H} {cs ss : Nat} {cL cS : List Nat} {Post : sx_O → Prop}
theorem ax_nil_t {S : List Nat} (h : (List.rec true (fun _ _ _ => false) S : Bool) = true) : S = [] := by
  cases S with
  | nil => rfl
  | cons a t => cases h
theorem ax_nm_eq {v u c1 c0 : Nat} (hY : ax_Yk ρ Y n) (h : ax_nm Y n v (fun v => ax_nm Y n u (fun u => Nat.beq v u)) = true) (h1 : ax_V ρ v c1) (h0 : ax_V ρ u c0) : v = u ∨ (u % 8 ≤ 1 ∧ c1 = c0) := by
  by_cases tv : v % 8 ≤ 1
  · obtain ⟨P1, j1, rfl⟩ := h1.toInt tv
    obtain ⟨v', g1, k1⟩ := ax_nm_ok (K := fun v => ax_nm Y n u (fun u => Nat.beq v u)) hY j1
    rw [g1] at h
    by_cases tu : u % 8 ≤ 1
    · obtain ⟨P0, j0, rfl⟩ := h0.toInt tu
      obtain ⟨u', g0, k0⟩ := ax_nm_ok (K := fun u => Nat.beq v' u) hY j0
      rw [g0] at h
      have e := sx_beq h
      subst e
      have := sx_b_inj (k1.uniq k0)
      subst this
      exact Or.inr ⟨tu, rfl⟩
    · rw [ax_nm_ne (by omega)] at h
      have e := sx_beq h
      subst e
      have := k1.tag
      omega
  · rw [ax_nm_ne (by omega)] at h
    by_cases tu : u % 8 ≤ 1
    · obtain ⟨P0, j0, rfl⟩ := h0.toInt tu
      obtain ⟨u', g0, k0⟩ := ax_nm_ok (K := fun u => Nat.beq v u) hY j0
      rw [g0] at h
      have e := sx_beq h
      subst e
      have := k0.tag
      omega
    · rw [ax_nm_ne (by omega)] at h
      exact Or.inl (sx_beq h)
theorem ax_back_ok {ρ0 ρ1 ρ' : List Nat} {Lh : List Nat} {E0 : List (Nat × Nat × Nat × Nat)} {E : List (Nat × Nat × Nat × Nat × Nat × Nat)} {Mb : ax_M} {rk ix dir th' : Nat} {cL' : List Nat} {hh' : sx_H} {cs' ss' : Nat}
    (I : ax_Inv W ρ0 Lh E0 E Mb th cL hh cs ss) (p01 : ρ0 <+: ρ1) (hL1 : ax_Ls ρ1 Lh cL) (hE1 : ∀ q ∈ E, ax_V ρ1 q.2.2.1 (sx_get (sx_rd hh q.1).2 q.2.1)) (p1 : ρ1 <+: ρ') (X : ax_X W ρ' M F Y n th' hh' cs' ss') (HL : ax_Ls ρ' L cL') (h : ax_bc (pc, Nat.mul 2 th, Lh, Mb, E, E0, rk, ix, dir) L S M F Y n th' = true) :
    S = [] ∧ ax_Inv W ρ0 Lh E0 E Mb th cL' hh' cs' ss' ∧ ax_mu E rk ix dir cL' hh' < ax_mu E rk ix dir cL hh := by
  obtain ⟨I1, I2, I3, I4, I5, I6, I7, I8, I9, I10, I11⟩ := I
  have p0 := p01.trans p1
  have h : sx_and (sx_and (Nat.ble (Nat.mul 2 th') (Nat.mul 2 th)) (List.rec true (fun _ _ _ => false) S)) (sx_and (sx_and (ax_li Y n L E0) (ax_lb L F Y n E0)) (sx_and (ax_lx Lh E0 L (fun L => ax_le7 L Lh)) (sx_and (ax_mb M F Y n E) (sx_and (ax_me Y n M Mb) (ax_rk (pc, Nat.mul 2 th, Lh, Mb, E, E0, rk, ix, dir) L M F Y n))))) = true := h
  obtain ⟨a1, h⟩ := sx_and_ok h
  obtain ⟨a1, a2⟩ := sx_and_ok a1
  obtain ⟨a3, h⟩ := sx_and_ok h
  obtain ⟨a3, a4⟩ := sx_and_ok a3
  obtain ⟨a5, h⟩ := sx_and_ok h
  obtain ⟨a6, h⟩ := sx_and_ok h
  obtain ⟨a7, a8⟩ := sx_and_ok h
  have a1 : 2 * th' ≤ 2 * th := sx_ble a1
  obtain ⟨L', l1, l2, l3⟩ := ax_lx_ok a5
  obtain ⟨l4, l5⟩ := ax_le7_ok l1
  have hl := HL.len
  have r1 := X.r1
  have r2 := X.r2
  refine ⟨ax_nil_t a2, ⟨by omega, fun i hi => ?_, fun q hq => ?_, fun q hq => ?_, fun m hm => ?_, X.hs, X.fr, by omega, by omega, X.r3, X.r4⟩, ?_⟩
  · have e := l3 i hi
    rcases l5 i with k | ⟨k, k2⟩ | ⟨k, k2⟩ | k
    · rw [k]; exact Or.inr (Or.inr (Or.inr (Or.inr (Or.inr (Or.inr rfl)))))
    · rw [e] at k2
      rw [k]; exact Or.inr (Or.inr (Or.inl ⟨rfl, (HL.ln i).nl k2⟩))
    · rw [e] at k2
      rw [k]; exact Or.inr (Or.inr (Or.inr (Or.inr (Or.inl ⟨rfl, (HL.ln i).lg k2⟩))))
    · rw [e] at k
      have hv := HL.ln i
      rw [k] at hv
      exact hv.down (I2 i hi) p0
  · obtain ⟨k1, k2, k3⟩ := ax_li_ok a3 q hq
    obtain ⟨o1, o2, o3⟩ := I3 q hq
    refine ⟨o1, fun c => ?_, fun c => ⟨fun e => (HL.ln q.1).nl ((k3 c).1 e), fun e => (HL.ln q.1).lg ((k3 c).2 e)⟩⟩
    have k2 := k2 c
    obtain ⟨P, j, e⟩ := (HL.ln q.1).toInt (ax_in_tag k2)
    have b := ax_in_ok k2 X.yk j
    refine ⟨P, e, b.1, b.2, fun na => ?_⟩
    obtain ⟨P0, -, -, -, w⟩ := o2 c
    obtain ⟨z, z1, z2⟩ := w na
    have le := ax_le_ok X.yk X.fk (z1.mono p0) j (ax_lb_ok a4 q hq na)
    exact ⟨z, z1, by omega⟩
  · obtain ⟨v, v1, v2, v3⟩ := ax_mb_ok a6 q hq
    obtain ⟨o1, o2, P0, -, -, -, o3⟩ := I4 q hq
    obtain ⟨k1, k2⟩ := X.mm.pl o1 v1
    obtain ⟨P, j, e⟩ := k2.toInt (ax_in_tag v2)
    have b := ax_in_ok v2 X.yk j
    refine ⟨o1, k1, P, e, b.1, b.2, fun t => ?_⟩
    obtain ⟨z, z1, z2⟩ := o3 t
    have le := ax_le_ok X.yk X.fk (z1.mono p0) j (v3 t)
    exact ⟨z, z1, by omega⟩
  · rcases I5 m hm with q | ⟨q1, j, q2, q3, q4, q5⟩
    · exact Or.inl q
    · refine Or.inr ⟨q1, j, q2, q3, q4, ?_⟩
      obtain ⟨v, v1, v2⟩ := ax_me_ok a7 m hm
      have hv := X.mm.at v1 q1 (q3.mono p0)
      rcases v2 with v2 | v2
      · rw [v2] at hv
        exact hv.down q5 p0
      · rcases ax_nm_eq X.yk v2 hv (q5.mono p0) with e | ⟨-, e⟩
        · rw [e] at hv
          exact hv.down q5 p0
        · rw [e]; exact q5
  · have key : ∀ {a b va vb : Nat}, ax_V ρ' a va → ax_V ρ' b vb → ax_ii a b = true → sx_if (Nat.beq dir 1) (ax_le F Y n a 1 40 b) (ax_le F Y n b 1 40 a) = true → sx_if (Nat.beq dir 1) (4294967296 - sx_bs (sx_pl vb)) (sx_bs (sx_pl vb)) < sx_if (Nat.beq dir 1) (4294967296 - sx_bs (sx_pl va)) (sx_bs (sx_pl va)) := by
      intro a b va vb ha hb hii hle
      obtain ⟨P, Q, jp, jq, rfl, rfl⟩ := ax_ii_ok ha hb hii
      rw [ax_bs_pl, ax_bs_pl]
      have lp := sx_b_lt P
      have lq := sx_b_lt Q
      cases c : Nat.beq dir 1 with
      | true =>
        rw [c, sx_if_t] at hle
        have := ax_le_ok X.yk X.fk jp jq hle
        rw [sx_if_t, sx_if_t]
        omega
      | false =>
        rw [c, sx_if_f] at hle
        have := ax_le_ok X.yk X.fk jq jp hle
        rw [sx_if_f, sx_if_f]
        omega
    have a8 : sx_if (Nat.beq rk 0) (sx_fo (sx_ln Lh ix) (fun v0 => sx_fo (sx_ln L ix) (fun v => sx_and (ax_ii v0 v) (sx_if (Nat.beq dir 1) (ax_le F Y n v0 1 40 v) (ax_le F Y n v 1 40 v0)))))
      (Option.rec false (fun q => Option.rec false (fun v => sx_and (ax_ii q.2.2.1 v) (sx_if (Nat.beq dir 1) (ax_le F Y n q.2.2.1 1 40 v) (ax_le F Y n v 1 40 q.2.2.1))) (ax_mg M q.1 (Nat.mul 8 q.2.1))) (sx_nth E ix)) = true := a8
    unfold ax_mu
    cases c : Nat.beq rk 0 with
    | true =>
      rw [c, sx_if_t, sx_fo_eq, sx_fo_eq] at a8
      obtain ⟨b1, b2⟩ := sx_and_ok a8
      rw [sx_if_t, sx_if_t]
      exact key ((hL1.mono' p1).ln ix) (HL.ln ix) b1 b2
    | false =>
      rw [c, sx_if_f] at a8
      rw [sx_if_f, sx_if_f]
      cases hn : sx_nth E ix with
      | none => rw [hn] at a8; cases a8
      | some q =>
        rw [hn] at a8
        have hq : q ∈ E := by rw [sx_nth_eq] at hn; exact List.mem_of_getElem? hn
        cases hm : ax_mg M q.1 (Nat.mul 8 q.2.1) with
        | none =>
          have a8 : (Option.rec false (fun v => sx_and (ax_ii q.2.2.1 v) (sx_if (Nat.beq dir 1) (ax_le F Y n q.2.2.1 1 40 v) (ax_le F Y n v 1 40 q.2.2.1))) (ax_mg M q.1 (Nat.mul 8 q.2.1)) : Bool) = true := a8
          rw [hm] at a8; cases a8
        | some v =>
          have a8 : (Option.rec false (fun v => sx_and (ax_ii q.2.2.1 v) (sx_if (Nat.beq dir 1) (ax_le F Y n q.2.2.1 1 40 v) (ax_le F Y n v 1 40 q.2.2.1))) (ax_mg M q.1 (Nat.mul 8 q.2.1)) : Bool) = true := a8
          rw [hm] at a8
          obtain ⟨b1, b2⟩ := sx_and_ok a8
          exact key ((hE1 q hq).mono p1) (X.mm.pl (I4 q hq).1 hm).2 b1 b2
theorem ax_loop_ok (ok : ax_Ok W ih) (dd : d ≤ D) {ρ0 : List Nat} {Lh : List Nat} {E0 : List (Nat × Nat × Nat × Nat)} {E : List (Nat × Nat × Nat × Nat × Nat × Nat)} {Mb Mh : ax_M} {Yh : ax_Y} {nh rk ix dir : Nat}
    (h : ih d mi cd ((pc, Nat.mul 2 th, Lh, Mb, E, E0, rk, ix, dir) :: lst) true pc Lh [] Mh F Yh nh th = some outs)
    (build : ∀ cL hh cs ss, ax_Inv W ρ0 Lh E0 E Mb th cL hh cs ss → ∃ ρ1, ρ0 <+: ρ1 ∧ ax_Yk ρ1 Yh nh ∧ ax_Ls ρ1 Lh cL ∧ ax_Mk W ρ1 Mh hh ∧ ∀ q ∈ E, ax_V ρ1 q.2.2.1 (sx_get (sx_rd hh q.1).2 q.2.1))
    (hF : ax_Fk ρ0 F) (hnv : W.nv % 8 = 1 → ax_J ρ0 W.nv (2147483648 + W.N)) (Pq : ax_Pq W ρ0 outs Post) (Hq : ax_Hq W D mi cd ρ0 lst Post) : ∀ m cL hh cs ss, ax_Inv W ρ0 Lh E0 E Mb th cL hh cs ss → ax_mu E rk ix dir cL hh < m → cx_G W D mi cd pc cL [] hh cs ss Post := by
  intro m
  induction m with
  | zero => intro cL hh cs ss _ hm; exact absurd hm (Nat.not_lt_zero _)
  | succ m ihm =>
    intro cL hh cs ss I hm
    obtain ⟨ρ1, p1, y1, l1, m1, v1⟩ := build cL hh cs ss I
    have X1 : ax_X W ρ1 Mh F Yh nh th hh cs ss := by
      obtain ⟨-, -, -, -, -, I6, I7, I8, I9, I10, I11⟩ := I
      exact ⟨y1, hF.mono p1, m1, I6, I7, fun q => (hnv q).mono p1, I8, I9, I10, I11⟩
    refine ok d mi cd _ true pc Lh [] Mh F Yh nh th outs h D ρ1 cL [] hh cs ss Post dd X1 l1 ax_Ls.nil (Pq.sub (fun _ h => h) p1) ?_
    intro e he ρ' L' S' M' F' Y' n' th' cL' cS' hh' cs' ss' hp X' HL' HS' ht
    rcases List.mem_cons.mp he with rfl | he
    · have ht : sx_if (Nat.beq (Nat.mul 2 th) 1) _ (ax_bc (pc, Nat.mul 2 th, Lh, Mb, E, E0, rk, ix, dir) L' S' M' F' Y' n' th') = true := ht
      rw [sx_beq_e (show ¬ Nat.mul 2 th = 1 by show ¬ 2 * th = 1; omega), sx_if_f] at ht
      obtain ⟨b1, b2, b3⟩ := ax_back_ok I p1 l1 v1 hp X' HL' ht
      subst b1
      have e := HS'.nl
      subst e
      exact ihm cL' hh' cs' ss' b2 (Nat.lt_of_lt_of_le b3 (Nat.le_of_lt_succ hm))
    · exact Hq e he ρ' L' S' M' F' Y' n' th' cL' cS' hh' cs' ss' (p1.trans hp) X' HL' HS' ht
theorem ax_open_ok (ok : ax_Ok W ih) (dd : d ≤ D) (X : ax_X W ρ M F Y n th hh cs ss) (HL : ax_Ls ρ L cL) (Pq : ax_Pq W ρ outs Post) (Hq : ax_Hq W D mi cd ρ lst Post) {q : ax_H} (hli : ax_li Y n L q.2.1 = true) (hms : ax_ms M Y n q.2.2.1 = true) (h : ax_open ih d mi cd lst pc L M F Y n th q = some outs) : cx_G W D mi cd pc cL [] hh cs ss Post := by
  unfold ax_open at h
  obtain ⟨Lh, E0, Y1, n1, k1, k2, k3, k4, k5, k6, k7⟩ := ax_ol_ok L q.2.1 h
  obtain ⟨Mh, E, Yh, nh, j1, j2, j3, j4⟩ := ax_om_ok W M q.2.2.1 k1
  rw [sx_fo_eq] at j1
  have hps := ax_pm_ok X.yk X.mm hms
  refine ax_loop_ok (ρ0 := ρ) ok dd j1 ?_ X.fk X.nv Pq Hq _ cL hh cs ss ?_ (Nat.lt_succ_self _)
  · intro cL' hh' cs' ss' I
    obtain ⟨I1, I2, I3, I4, I5, -⟩ := I
    obtain ⟨ρ1, r1, r2, r3⟩ := k7 ρ ρ cL' List.prefix_rfl X.yk (by omega) (fun i hi => by
      have : ∀ q' ∈ E0, q'.1 ≠ i := fun q' hq' => by
        rcases k6 q' hq' with hq' | ⟨p, hp, e, -⟩
        · cases hq'
        · rw [e]; exact hi p hp
      have hv := I2 i this
      rw [k4 i hi] at hv
      exact hv) (fun q' hq' => by rw [← k2]; exact I3 q' hq')
    obtain ⟨ρ2, s1, s2, s3, s4⟩ := j4 ρ ρ1 hh' r1 r2 (I5.mono r1) I4
    exact ⟨ρ2, r1.trans s1, s2, r3.mono' s1, s3, fun q' hq' => (s4 q' hq').resolve_left (fun c => by cases c)⟩
  · have hl := HL.len
    refine ⟨by omega, fun i hi => ?_, fun q' hq' => ?_, fun q' hq' => ?_, fun m hm => X.mm m (ax_dr_mem (ax_dl_mem hm)).1, X.hs, X.fr, X.r1, X.r2, X.r3, X.r4⟩
    · rw [k4 i (fun p hp => by
        obtain ⟨q', w1, w2⟩ := k5 p hp
        rw [← w2]; exact hi q' w1)]
      exact HL.ln i
    · rcases k6 q' hq' with c | ⟨p, hp, e1, e2, e3, e4⟩
      · cases c
      · obtain ⟨o1, o2, o3⟩ := ax_li_ok hli p hp
        rw [e1]
        refine ⟨by omega, fun c => ?_, fun c => ?_⟩
        · rw [e2, e3] at c
          have o2 := o2 c
          obtain ⟨P, jj, e⟩ := (HL.ln p.1).toInt (ax_in_tag o2)
          have b := ax_in_ok o2 X.yk jj
          refine ⟨P, e, by rw [e2]; exact b.1, by rw [e3]; exact b.2, fun na => ?_⟩
          rcases e4 with e4 | ⟨e4, -, -⟩
          · exact absurd e4 na
          · exact ⟨sx_b P, by rw [e4, Nat.add_sub_cancel]; exact jj, Nat.le_refl _⟩
        · rw [e2, e3] at c
          rw [e2]
          exact ⟨fun e => (HL.ln p.1).nl ((o3 c).1 e), fun e => (HL.ln p.1).lg ((o3 c).2 e)⟩
    · rcases j3 q' hq' with c | ⟨p, hp, e1, e2, e3, e4, e5⟩
      · cases c
      · obtain ⟨o1, o2, P, o3, o4, o5⟩ := hps p hp
        refine ⟨by rw [e1]; exact o1, by rw [e1, e2]; exact o2, P, by rw [e1, e2]; exact o3, by rw [e3]; exact o4, by rw [e4]; exact o5, fun t => ?_⟩
        have hv := (X.mm.pl o1 e5).2
        obtain ⟨P0, jj, e⟩ := hv.toInt (by omega)
        rw [o3] at e
        have e : P0 = P := by
          have t1 := (sx_i_ok P0).2
          rw [← e, (sx_i_ok P).2] at t1
          exact t1.symm
        subst e
        exact ⟨_, jj, Nat.le_refl _⟩
theorem ax_any1_ok {pc : Nat} {t : ax_I → Bool} : ∀ {l : List ax_I}, ax_any1 pc t l = true → ∃ e ∈ l, e.1 = pc ∧ t e = true
  | [], h => by cases h
  | q :: l, h => by
    have h : sx_if (sx_and (Nat.beq q.1 pc) (t q)) true (ax_any1 pc t l) = true := h
    rcases ax_or h with k | k
    · obtain ⟨k1, k2⟩ := sx_and_ok k
      exact ⟨q, List.mem_cons_self, sx_beq k1, k2⟩
    · obtain ⟨e, h1, h2⟩ := ax_any1_ok k
      exact ⟨e, List.mem_cons_of_mem _ h1, h2⟩
theorem ax_step_ok (hG : ax_Gk W g) (hV : ax_Gv W.N W.sy g) (wk : ax_Wk W) (ok : ax_Ok W ih) {fl : Bool} (dd : d ≤ D) (X : ax_X W ρ M F Y n th hh cs ss) (HL : ax_Ls ρ L cL) (HS : ax_Ls ρ S cS) (Pq : ax_Pq W ρ outs Post) (Hq : ax_Hq W D mi cd ρ lst Post) (h : ax_step ih g d mi cd lst pc L S M F Y n th fl = some outs) : cx_G W D mi cd pc cL cS hh cs ss Post := by
  unfold ax_step at h
  rcases ax_if h with ⟨-, h1⟩ | ⟨-, h1⟩
  · exact ax_nx_ok hG hV wk ok dd X HL HS Pq Hq h1
  · rcases ax_if h1 with ⟨c, -⟩ | ⟨-, h2⟩
    · obtain ⟨e, he, rfl, ht⟩ := ax_any1_ok c
      exact Hq e he ρ L S M F Y n th cL cS hh cs ss List.prefix_rfl X HL HS ht
    · cases hh1 : ax_hd g.2.2.2.1 mi pc with
      | none => rw [hh1] at h2; exact ax_nx_ok hG hV wk ok dd X HL HS Pq Hq h2
      | some q =>
        rw [hh1] at h2
        have h2 : sx_if (sx_and (List.rec true (fun _ _ _ => false) S) (sx_and (ax_li Y n L q.2.1) (ax_ms M Y n q.2.2.1))) (ax_open ih d mi cd lst pc L M F Y n th q) (ax_nx ih g d mi cd lst pc L S M F Y n th) = some outs := h2
        rcases ax_if h2 with ⟨c, h3⟩ | ⟨-, h3⟩
        · obtain ⟨c1, c2⟩ := sx_and_ok c
          obtain ⟨c2, c3⟩ := sx_and_ok c2
          have e := ax_nil_t c1
          subst e
          have e := HS.nl
          subst e
          exact ax_open_ok ok dd X HL Pq Hq c2 c3 h3
        · exact ax_nx_ok hG hV wk ok dd X HL HS Pq Hq h3
theorem ax_run_ok (hG : ax_Gk W g) (hV : ax_Gv W.N W.sy g) (wk : ax_Wk W) : ∀ fuel, ax_Ok W (ax_run g fuel)
  | 0 => fun d mi cd lst fl pc L S M F Y n th outs h => by cases h
  | f + 1 => fun d mi cd lst fl pc L S M F Y n th outs h D ρ cL cS hh cs ss Post dd X HL HS Pq Hq =>
    ax_step_ok hG hV wk (ax_run_ok hG hV wk f) (fl := fl) dd X HL HS Pq Hq h
end AXStp
