/-! joined: 83.bzwinv 83.bzxbody 83.bzyhead 83.bzzstep 83.bzzzchk 83.cfxa 83.cfxb 83.cfxc 83.cfxd 83.cfxe 83.cfxf 83.cfxg 83.cfxh 83.cfxi -/
section
/-! ax: calls -/
section AXInv
variable {W : ax_W} {ih : ax_ih} {g : ax_G} {d D mi cd : Nat} {lst : List ax_I} {pc w : Nat} {L S : List Nat} {M : ax_M} {F : ax_F} {Y : ax_Y} {n th : Nat} {ρ : List Nat} {outs : List ax_O} {hh : sx_H} {cs ss : Nat} {cL cS : List Nat} {Post : sx_O → Prop}
theorem ax_fc_ok {mj d : Nat} {av : List Nat} {c : ax_C} : ∀ {l : List ax_C}, ax_fc M Y n mj av d l = some c → c ∈ l ∧ c.1 = mj ∧ c.2.1 ≤ d ∧ ax_am Y n c.2.2.1 av = true ∧ ax_pm M Y n c.2.2.2.1 = true
  | [], h => by cases h
  | q :: l, h => by
    have h : sx_if (sx_and (sx_and (Nat.beq q.1 mj) (Nat.ble q.2.1 d)) (sx_and (ax_am Y n q.2.2.1 av) (ax_pm M Y n q.2.2.2.1))) (some q) (ax_fc M Y n mj av d l) = some c := h
    cases t : sx_and (sx_and (Nat.beq q.1 mj) (Nat.ble q.2.1 d)) (sx_and (ax_am Y n q.2.2.1 av) (ax_pm M Y n q.2.2.2.1)) with
    | true =>
      rw [t, sx_if_t] at h
      cases h
      obtain ⟨t1, t2⟩ := sx_and_ok t
      obtain ⟨t0, t1⟩ := sx_and_ok t1
      obtain ⟨t2, t3⟩ := sx_and_ok t2
      exact ⟨List.mem_cons_self, sx_beq t0, sx_ble t1, t2, t3⟩
    | false =>
      rw [t, sx_if_f] at h
      obtain ⟨h1, h2⟩ := ax_fc_ok h
      exact ⟨List.mem_cons_of_mem _ h1, h2⟩
theorem ax_us_ok {mj : Nat} {c : ax_C} : ∀ {l : List (Nat × List ax_C)}, c ∈ ax_us l mj → ∃ q ∈ l, c ∈ q.2
  | [], h => by cases h
  | q :: l, h => by
    have h : c ∈ sx_if (Nat.beq q.1 mj) q.2 (ax_us l mj) := h
    cases t : Nat.beq q.1 mj with
    | true => rw [t, sx_if_t] at h; exact ⟨q, List.mem_cons_self, h⟩
    | false =>
      rw [t, sx_if_f] at h
      obtain ⟨q', h1, h2⟩ := ax_us_ok h
      exact ⟨q', List.mem_cons_of_mem _ h1, h2⟩
def ax_Gv (N : Nat) (sy : sx_Y) (g : ax_G) : Prop := ∀ q ∈ g.2.2.1, ∀ c ∈ q.2, ax_Valid N sy c
/-- the first argument, as the contract knows it -/
theorem ax_a0_ok {av cav : List Nat} {fn : Nat} {K : Nat → ax_R} (hY : ax_Yk ρ Y n) (HA : ax_Ls ρ av cav) (h : (List.rec none (fun a0 _ _ => ax_nm Y n a0 (fun a0 => sx_if (sx_if (Nat.beq fn 1) (ax_in Y n a0 2147483648 2147483903) true) (K a0) none)) (av ++ [0]) : ax_R) = some outs) :
    ∃ a0, K a0 = some outs ∧ (fn = 1 → ∀ A, sx_ln cav 0 = sx_i A → ax_J ρ a0 (sx_b A) ∧ 2147483648 ≤ sx_b A ∧ sx_b A < 2147483904) := by
  cases av with
  | nil =>
    have h : ax_nm Y n 0 (fun a0 => sx_if (sx_if (Nat.beq fn 1) (ax_in Y n a0 2147483648 2147483903) true) (K a0) none) = some outs := h
    rw [ax_nm_ne (by decide)] at h
    obtain ⟨-, h1⟩ := ax_if0 h
    have e := HA.nl
    subst e
    refine ⟨0, h1, fun _ A q => ?_⟩
    have q : 7 = sx_i A := q
    have := ax_i_t A
    omega
  | cons x t =>
    obtain ⟨v, r, rfl, hv, -⟩ := HA.c
    have h : ax_nm Y n x (fun a0 => sx_if (sx_if (Nat.beq fn 1) (ax_in Y n a0 2147483648 2147483903) true) (K a0) none) = some outs := h
    rcases ax_nm_V h hY hv with ⟨-, P, a', rfl, j, h1⟩ | ⟨t1, h1⟩
    · obtain ⟨c, h2⟩ := ax_if0 h1
      refine ⟨a', h2, fun hf A q => ?_⟩
      rw [sx_beq_t hf, sx_if_t] at c
      have q : sx_i P = sx_i A := q
      have e : P = A := by
        have t1 := (sx_i_ok P).2
        rw [q, (sx_i_ok A).2] at t1
        exact t1.symm
      subst e
      have b := ax_in_ok c hY j
      exact ⟨j, by omega, by omega⟩
    · obtain ⟨c, h2⟩ := ax_if0 h1
      refine ⟨x, h2, fun hf A q => ?_⟩
      rw [sx_beq_t hf, sx_if_t] at c
      have := ax_in_tag c
      omega
theorem ax_call_ok (hG : ax_Gk W g) (hV : ax_Gv W.N W.sy g) (C : ax_Cx W ih d D mi cd lst pc w L S M F Y n th ρ outs hh cs ss cL cS Post) {av rest cav crest : List Nat} {mj : Nat} (h : ax_call ih g d mi cd lst pc L M F Y n th av rest mj = some outs) (HA : ax_Ls ρ av cav) (HR : ax_Ls ρ rest crest)
    (hb : ∀ ih' : sx_ih, sx_body ih' W.N w D mi cd [] pc cL cS hh 160 W.sy cs ss = sx_call ih' D mi cd [] pc cL hh 160 W.sy cs ss cav crest mj) : cx_G W D mi cd pc cL cS hh cs ss Post := by
  have hdD := C.dd
  cases d with
  | zero => cases h
  | succ d' =>
    obtain ⟨D', rfl⟩ : ∃ D', D = D' + 1 := ⟨D - 1, by omega⟩
    have h : ax_mtK mj (fun cj fj => ax_mtK mi (fun _ f =>
      sx_if (sx_and (Nat.blt 0 cj) (Nat.ble (Nat.add (Nat.mul 2 (List.length rest)) (sx_im fj)) 89))
        (Option.rec none (fun Lj => Option.rec none (fun outs => ax_cont ih (d' + 1) mi cd lst pc L rest (sx_ihd f) outs)
          (Option.rec (ih d' mj cj [] false 0 Lj [] M F Y n th) (fun c => ax_by g M F Y n th c av) (ax_fc M Y n mj av d' (sx_if (ax_bl g.2.2.2.2.2.2.2 mi mj) [] (ax_us g.2.2.1 mj))))) (ax_xp av (sx_im fj))) none)) = some outs := h
    rw [ax_mtK_eq, ax_mtK_eq] at h
    obtain ⟨c, h1⟩ := ax_if0 h
    obtain ⟨c1, c2⟩ := sx_and_ok c
    obtain ⟨Lj, hLj, h2⟩ := ax_opt_h h1
    obtain ⟨os, hos, h3⟩ := ax_opt_h h2
    obtain ⟨cLj, k1, k2⟩ := ax_xp_ok hLj HA
    have rm1 := C.wk.rm1
    have rm2 := C.wk.rm2
    have r1 := C.X.r1
    have r2 := C.X.r2
    have r3 := C.X.r3
    have r4 := C.X.r4
    have hb' : ∀ ih' : sx_ih, sx_body ih' W.N w (D' + 1) mi cd [] pc cL cS hh 160 W.sy cs ss = Option.rec none (fun outs => sx_cont ih' (D' + 1) mi cd [] pc cL crest (sx_ihd (sx_mt mi).2) outs) (ih' D' mj (sx_mt mj).1 [] false 0 cLj [] hh 160 W.sy cs ss) := fun ih' => by
      rw [hb]
      show sx_mtK mj (fun cj fj => sx_mtK mi (fun _ f =>
        sx_if (sx_and (sx_and (Nat.blt 0 cj) (Nat.ble (Nat.add (Nat.mul 2 (List.length crest)) (sx_im fj)) 89)) (sx_and (Nat.ble cs 600002) (Nat.ble ss 7302232)))
          (Option.rec none (fun Lj => Option.rec none (fun outs => sx_cont ih' (D' + 1) mi cd [] pc cL crest (sx_ihd f) outs)
            (ih' D' mj cj [] false 0 Lj [] hh 160 W.sy cs ss)) (sx_xp cav (sx_im fj))) none)) = _
      rw [sx_mtK_eq, sx_mtK_eq, HR.len, c1, c2, show Nat.ble cs 600002 = true from Nat.ble_eq.mpr (by omega), show Nat.ble ss 7302232 = true from Nat.ble_eq.mpr (by omega), cx_at, cx_at, sx_if_t, k1]
    have cont : ∀ {ao : ax_O} {ρ' : List Nat} {co : sx_O}, ao ∈ os → ρ <+: ρ' → ax_Or W ρ' ao co → cx_K W (D' + 1) mi cd pc cL crest (sx_ihd (sx_mt mi).2) co Post := by
      intro ao ρ' co ha hp hO
      obtain ⟨o', m1, m2⟩ := ax_cont_mem h3 ha
      exact ax_cont_ok C.wk C.ok C.dd C.HL HR C.Pq C.Hq m1 m2 hp hO
    refine cx_call C.hw C.wh hb' ?_
    cases hfc : ax_fc M Y n mj av d' (sx_if (ax_bl g.2.2.2.2.2.2.2 mi mj) [] (ax_us g.2.2.1 mj)) with
    | none =>
      rw [hfc] at hos
      exact C.ok d' mj _ [] false 0 Lj [] M F Y n th os hos D' ρ cLj [] hh cs ss _ (by omega) C.X k2 ax_Ls.nil (fun ao ha ρ' co hp hO => cont ha hp hO) (fun e he => by cases he)
    | some c0 =>
      rw [hfc] at hos
      have hos : ax_by g M F Y n th c0 av = some os := hos
      obtain ⟨q1, q2, q3, q4, q5⟩ := ax_fc_ok hfc
      have hc0 : c0 ∈ ax_us g.2.2.1 mj := by
        cases t : ax_bl g.2.2.2.2.2.2.2 mi mj with
        | true => rw [t, sx_if_t] at q1; cases q1
        | false => rw [t, sx_if_f] at q1; exact q1
      obtain ⟨q, q6, q7⟩ := ax_us_ok hc0
      have hv := hV q q6 c0 q7
      unfold ax_by at hos
      obtain ⟨e1, e2⟩ := ax_if0 hos
      obtain ⟨e1, e3⟩ := sx_and_ok e1
      have e1 : Nat.land c0.2.2.2.2.1 W.md = c0.2.2.2.2.1 := by rw [← hG.md]; exact sx_beq e1
      have e3 : th < W.lim := by rw [← hG.lm]; exact sx_blt e3
      obtain ⟨a0, e4, e5⟩ := ax_a0_ok C.X.yk HA e2
      subst q2
      obtain ⟨co, ev, v1, v2, t, v3, v4⟩ := hv D' cav hh cs ss cLj (by omega) (ax_am_ok C.X.yk q4 HA) (ax_pm_ok C.X.yk C.X.mm q5) C.X.hs (by omega) (by omega) k1
      obtain ⟨o', m1, m2⟩ := ax_to_mem e4 v3
      obtain ⟨ao, n1, ρ', n2, n3⟩ := ax_to1_ok C.wk C.X m1 e1 e3 v1 v2 v4 e5
      exact ⟨co, ev, cont (m2 _ n1) n2 n3⟩
theorem ax_inv_ok (hG : ax_Gk W g) (hV : ax_Gv W.N W.sy g) (C : ax_Cx W ih d D mi cd lst pc w L S M F Y n th ρ outs hh cs ss cL cS Post) {w' : Nat} {vt : Bool} (h : ax_oInv ih g w' d mi cd lst pc L S M F Y n th vt = some outs)
    (hb : ∀ ih' : sx_ih, sx_body ih' W.N w D mi cd [] pc cL cS hh 160 W.sy cs ss = sx_oInv ih' w' D mi cd [] pc cL cS hh 160 W.sy cs ss vt) : cx_G W D mi cd pc cL cS hh cs ss Post := by
  unfold ax_oInv at h
  rw [sx_fo_eq, ax_mtK_eq] at h
  obtain ⟨av, rest, cav, crest, h1, HA, HR, hk⟩ := ax_tk_ok (ρ := ρ) _ h C.HS ax_Ls.nil
  cases vt with
  | false =>
    have h1 : ax_call ih g d mi cd lst pc L M F Y n th av rest (sx_wc w') = some outs := h1
    refine ax_call_ok hG hV C h1 HA HR (fun ih' => ?_)
    rw [hb]; unfold sx_oInv
    rw [sx_fo_eq, sx_mtK_eq, hk, sx_if_f]
  | true =>
    obtain ⟨o, r, v, cr, e1, f1, h2, hv, H⟩ := ax_pop h1 HA
    obtain ⟨c, h3⟩ := ax_if0 h2
    obtain ⟨rfl, hc, ht⟩ := ax_ref2 hv c
    rw [ax_gK_eq] at h3
    obtain ⟨c1, h4⟩ := ax_if0 h3
    refine ax_call_ok hG hV C h4 HA HR (fun ih' => ?_)
    rw [hb]; unfold sx_oInv
    rw [sx_fo_eq, sx_mtK_eq, hk, sx_if_t, f1, cx_p1, cx_ref ht hc, sx_if_t, C.X.hs.rd hc, c1, sx_if_t]
theorem ax_s21 (hG : ax_Gk W g) (hV : ax_Gv W.N W.sy g) (C : ax_Cx W ih d D mi cd lst pc w L S M F Y n th ρ outs hh cs ss cL cS Post) (hop : sx_op w = 21) (h : ax_oInv ih g w d mi cd lst pc L S M F Y n th true = some outs) : cx_G W D mi cd pc cL cS hh cs ss Post :=
  ax_inv_ok hG hV C h (fun ih' => cx_b21 hop)
theorem ax_s22 (hG : ax_Gk W g) (hV : ax_Gv W.N W.sy g) (C : ax_Cx W ih d D mi cd lst pc w L S M F Y n th ρ outs hh cs ss cL cS Post) (hop : sx_op w = 22) (h : ax_oInv ih g w d mi cd lst pc L S M F Y n th false = some outs) : cx_G W D mi cd pc cL cS hh cs ss Post :=
  ax_inv_ok hG hV C h (fun ih' => cx_b22 hop)
theorem ax_s39 (hG : ax_Gk W g) (hV : ax_Gv W.N W.sy g) (C : ax_Cx W ih d D mi cd lst pc w L S M F Y n th ρ outs hh cs ss cL cS Post) (hop : sx_op w = 39) (h : ax_oInvX ih g w d mi cd lst pc L S M F Y n th = some outs) : cx_G W D mi cd pc cL cS hh cs ss Post := by
  unfold ax_oInvX at h
  rw [sx_fo_eq, ax_mtK_eq] at h
  obtain ⟨av, rest, cav, crest, h1, HA, HR, hk⟩ := ax_tk_ok (ρ := ρ) _ h C.HS ax_Ls.nil
  obtain ⟨o, r, v, cr, e1, f1, h2, hv, H⟩ := ax_pop h1 HA
  obtain ⟨c, h3⟩ := ax_if0 h2
  have ht : o % 8 = 5 := sx_beq (sx_and_ok c).1
  obtain ⟨-, rfl⟩ := hv.toRef (by omega) (by omega)
  refine ax_call_ok hG hV C h3 HA HR (fun ih' => ?_)
  rw [cx_b39 hop]; unfold sx_oInvX
  rw [sx_fo_eq, sx_mtK_eq, hk, f1, cx_p1, c, sx_if_t]
theorem ax_s40 (hG : ax_Gk W g) (hV : ax_Gv W.N W.sy g) (C : ax_Cx W ih d D mi cd lst pc w L S M F Y n th ρ outs hh cs ss cL cS Post) (hop : sx_op w = 40) (h : ax_oInvW ih g w d mi cd lst pc L S M F Y n th = some outs) : cx_G W D mi cd pc cL cS hh cs ss Post := by
  unfold ax_oInvW at h
  obtain ⟨o, r, v, cr, e1, f1, h1, hv, H⟩ := ax_pop h C.HS
  obtain ⟨c, h2⟩ := ax_if0 h1
  obtain ⟨rfl, hc, ht⟩ := ax_ref2 hv c
  rw [ax_gK_eq] at h2
  rcases ax_if h2 with ⟨c1, h3⟩ | ⟨c1, h3⟩
  · rw [sx_fo_eq] at h3
    refine ax_inv_ok hG hV C h3 (fun ih' => ?_)
    rw [cx_b40 hop]; unfold sx_oInvW
    rw [f1, cx_p1, C.X.hs.rd hc, c1, sx_if_t, sx_fo_eq]
  · rw [sx_fo_eq] at h3
    refine ax_inv_ok hG hV C h3 (fun ih' => ?_)
    rw [cx_b40 hop]; unfold sx_oInvW
    rw [f1, cx_p1, C.X.hs.rd hc, c1, sx_if_f, sx_fo_eq]
end AXInv
end
section
/-! ax: each step -/
section AXBody
variable {W : ax_W} {ih : ax_ih} {g : ax_G} {d D mi cd : Nat} {lst : List ax_I} {pc w : Nat} {L S : List Nat} {M : ax_M} {F : ax_F} {Y : ax_Y} {n th : Nat} {ρ : List Nat} {outs : List ax_O} {hh : sx_H} {cs ss : Nat} {cL cS : List Nat} {Post : sx_O → Prop}
theorem ax_body_ok (hG : ax_Gk W g) (hV : ax_Gv W.N W.sy g) (C : ax_Cx W ih d D mi cd lst pc w L S M F Y n th ρ outs hh cs ss cL cS Post) (h : ax_body ih g w d mi cd lst pc L S M F Y n th = some outs) : cx_G W D mi cd pc cL cS hh cs ss Post := by
  unfold ax_body at h
  rw [sx_fo_eq] at h
  rcases ax_if h with ⟨c, h⟩ | ⟨-, h⟩
  · exact ax_s2 C (sx_beq c) h
  rcases ax_if h with ⟨c, h⟩ | ⟨-, h⟩
  · exact ax_s1 C (sx_beq c) h
  rcases ax_if h with ⟨c, h⟩ | ⟨-, h⟩
  · exact ax_s9 C (sx_beq c) h
  rcases ax_if h with ⟨c, h⟩ | ⟨-, h⟩
  · exact ax_s7 C (sx_beq c) h
  rcases ax_if h with ⟨c, h⟩ | ⟨-, h⟩
  · exact ax_s6 C (sx_beq c) h
  rcases ax_if h with ⟨c, h⟩ | ⟨-, h⟩
  · exact ax_s11 hG C (sx_beq c) h
  rcases ax_if h with ⟨c, h⟩ | ⟨-, h⟩
  · exact ax_s8 C (sx_beq c) h
  rcases ax_if h with ⟨c, h⟩ | ⟨-, h⟩
  · exact ax_s5 C (sx_beq c) h
  rcases ax_if h with ⟨c, h⟩ | ⟨-, h⟩
  · exact ax_s3 C (sx_beq c) h
  rcases ax_if h with ⟨c, h⟩ | ⟨-, h⟩
  · exact ax_s26 C (sx_beq c) h
  rcases ax_if h with ⟨c, h⟩ | ⟨-, h⟩
  · exact ax_s21 hG hV C (sx_beq c) h
  rcases ax_if h with ⟨c, h⟩ | ⟨-, h⟩
  · exact ax_s4 C (sx_beq c) h
  rcases ax_if h with ⟨c, h⟩ | ⟨-, h⟩
  · exact ax_s12 hG C (sx_beq c) h
  rcases ax_if h with ⟨c, h⟩ | ⟨-, h⟩
  · exact ax_s22 hG hV C (sx_beq c) h
  rcases ax_if h with ⟨c, h⟩ | ⟨-, h⟩
  · exact ax_s27 C (sx_beq c) h
  rcases ax_if h with ⟨c, h⟩ | ⟨-, h⟩
  · exact ax_s10 hG C (sx_beq c) h
  rcases ax_if h with ⟨c, h⟩ | ⟨-, h⟩
  · exact ax_s29 C (sx_beq c) h
  rcases ax_if h with ⟨c, h⟩ | ⟨-, h⟩
  · exact ax_s30 C (sx_beq c) h
  rcases ax_if h with ⟨c, h⟩ | ⟨-, h⟩
  · exact ax_s31 C (sx_beq c) h
  rcases ax_if h with ⟨c, h⟩ | ⟨-, h⟩
  · exact ax_s13 C (sx_beq c) h
  rcases ax_if h with ⟨c, h⟩ | ⟨-, h⟩
  · exact ax_s14 hG C (sx_beq c) h
  rcases ax_if h with ⟨c, h⟩ | ⟨-, h⟩
  · exact ax_s15 C (sx_beq c) h
  rcases ax_if h with ⟨c, h⟩ | ⟨-, h⟩
  · exact ax_s17 hG C (sx_beq c) h
  rcases ax_if h with ⟨c, h⟩ | ⟨-, h⟩
  · exact ax_s25 hG C (sx_beq c) h
  rcases ax_if h with ⟨c, h⟩ | ⟨-, h⟩
  · exact ax_s28 hG C (sx_beq c) h
  rcases ax_if h with ⟨c, h⟩ | ⟨-, h⟩
  · exact ax_s32 C (sx_beq c) h
  rcases ax_if h with ⟨c, h⟩ | ⟨-, h⟩
  · exact ax_s35 C (sx_beq c) h
  rcases ax_if h with ⟨c, h⟩ | ⟨-, h⟩
  · exact ax_s37 C (sx_beq c) h
  rcases ax_if h with ⟨c, h⟩ | ⟨-, h⟩
  · exact ax_s39 hG hV C (sx_beq c) h
  rcases ax_if h with ⟨c, h⟩ | ⟨-, h⟩
  · exact ax_s38 C (sx_beq c) h
  rcases ax_if h with ⟨c, h⟩ | ⟨-, h⟩
  · exact ax_s33 C (sx_beq c) h
  rcases ax_if h with ⟨c, h⟩ | ⟨-, h⟩
  · exact ax_s34 C (sx_beq c) h
  rcases ax_if h with ⟨c, h⟩ | ⟨-, h⟩
  · exact ax_s36 C (sx_beq c) h
  rcases ax_if h with ⟨c, h⟩ | ⟨-, h⟩
  · exact ax_s42 C (sx_beq c) h
  rcases ax_if h with ⟨c, h⟩ | ⟨-, h⟩
  · exact ax_s43 C (sx_beq c) h
  rcases ax_if h with ⟨c, h⟩ | ⟨-, h⟩
  · exact ax_s40 hG hV C (sx_beq c) h
  rcases ax_if h with ⟨c, h⟩ | ⟨-, h⟩
  · exact ax_s41 C (sx_beq c) h
  cases h
theorem ax_nx_ok (hG : ax_Gk W g) (hV : ax_Gv W.N W.sy g) (wk : ax_Wk W) (ok : ax_Ok W ih) (dd : d ≤ D) (X : ax_X W ρ M F Y n th hh cs ss) (HL : ax_Ls ρ L cL) (HS : ax_Ls ρ S cS) (Pq : ax_Pq W ρ outs Post) (Hq : ax_Hq W D mi cd ρ lst Post) (h : ax_nx ih g d mi cd lst pc L S M F Y n th = some outs) : cx_G W D mi cd pc cL cS hh cs ss Post := by
  unfold ax_nx at h
  rw [sx_fo_eq] at h
  obtain ⟨c, h⟩ := ax_if0 h
  have c := sx_beq c
  cases e : ax_ef g.2.2.2.2.1 mi pc with
  | none =>
    rw [e] at h
    exact ax_body_ok hG hV ⟨wk, ok, dd, X, HL, HS, Pq, Hq, rfl, c⟩ h
  | some dp =>
    rw [e] at h
    have h : sx_fo (sx_ln S dp) (fun v => ax_en Y n v 255 (fun _ Y => ax_body ih g (sx_ft cd pc) d mi cd lst pc L S M F Y n th)) = some outs := h
    rw [sx_fo_eq] at h
    obtain ⟨P, j, -⟩ := (HS.ln dp).toInt (ax_rg_tag h)
    obtain ⟨Y', o', h1, h2, h3⟩ := ax_en_ok h X.yk j
    exact ax_body_ok hG hV ⟨wk, ok, dd, X.yf h3 X.fk, HL, HS, Pq.sub h2 List.prefix_rfl, Hq, rfl, c⟩ h1
end AXBody
end
section
/-! ax: heads of loops -/
section AXHead
variable {W : ax_W} {ih : ax_ih} {g : ax_G} {d D mi cd : Nat} {lst : List ax_I} {pc : Nat} {L S : List Nat} {M : ax_M} {F : ax_F} {Y : ax_Y} {n th : Nat} {ρ : List Nat} {outs : List ax_O} {hh : sx_H} {cs ss : Nat} {cL cS : List Nat} {Post : sx_O → Prop}
theorem ax_fr_h {lo hi ge op x y : Nat} {K : Nat → ax_Y → Nat → ax_R} (h : ax_fr Y n lo hi ge op x y K = some outs) : n < 65536 ∧ K (ax_sym n) ((lo, hi, ge, op, x, y) :: Y) (n + 1) = some outs := by
  unfold ax_fr at h
  obtain ⟨c, h1⟩ := ax_if0 h
  simp only [sx_fo_eq] at h1
  exact ⟨sx_blt c, h1⟩
/-- a local that changes, by what is known of it at the head -/
def ax_Lq (ρ : List Nat) (q : Nat × Nat × Nat × Nat) (v : Nat) : Prop := (q.2.1 ≤ q.2.2.1 → ∃ P, v = sx_i P ∧ q.2.1 ≤ sx_b P ∧ sx_b P ≤ q.2.2.1 ∧ (q.2.2.2 ≠ 0 → ∃ z, ax_J ρ (q.2.2.2 - 1) z ∧ z ≤ sx_b P)) ∧ (¬ q.2.1 ≤ q.2.2.1 → (q.2.1 = 1 → v % 8 ≠ 4) ∧ (q.2.1 = 2 → v % 8 = 4 ∧ v < 4722366482869645213696))
theorem ax_ln_set {L : List Nat} {i j v : Nat} (h : i < L.length) : sx_ln (L.set i v) j = if j = i then v else sx_ln L j := by
  rw [sx_ln_eq, sx_ln_eq, List.getD_eq_getElem?_getD, List.getD_eq_getElem?_getD]
  by_cases e : j = i
  · subst e
    rw [if_pos rfl, List.getElem?_set_self h]
    rfl
  · rw [if_neg e, List.getElem?_set_ne (fun q => e q.symm)]
theorem ax_ln_ne {L : List Nat} {i j v : Nat} (h : i ≠ j) : sx_ln (L.set i v) j = sx_ln L j := by
  rw [sx_ln_eq (L.set i v), sx_ln_eq L, List.getD_eq_getElem?_getD, List.getD_eq_getElem?_getD, List.getElem?_set_ne h]
theorem ax_Ls.of : ∀ {L cL : List Nat}, cL.length = L.length → (∀ i, ax_V ρ (sx_ln L i) (sx_ln cL i)) → ax_Ls ρ L cL
  | [], [], _, _ => ax_Ls.nil
  | a :: L, v :: cL, hl, h => ax_Ls.cons (h 0) (ax_Ls.of (by simpa using hl) (fun i => h (i + 1)))
  | [], _ :: _, hl, _ => by cases hl
  | _ :: _, [], hl, _ => by cases hl
theorem ax_ol_ok (L0 : List Nat) : ∀ (ls : List (Nat × Nat × Nat × Nat)) {L : List Nat} {E : List (Nat × Nat × Nat × Nat)} {Y : ax_Y} {n : Nat} {K : List Nat → List (Nat × Nat × Nat × Nat) → ax_Y → Nat → ax_R}, ax_ol L0 ls L E Y n K = some outs →
    ∃ Lh Eh Yh nh, K Lh Eh Yh nh = some outs ∧ Lh.length = L.length ∧ (∀ q ∈ E, q ∈ Eh) ∧ (∀ i, (∀ p ∈ ls, p.1 ≠ i) → sx_ln Lh i = sx_ln L i) ∧ (∀ p ∈ ls, ∃ q ∈ Eh, q.1 = p.1) ∧
      (∀ q ∈ Eh, q ∈ E ∨ ∃ p ∈ ls, q.1 = p.1 ∧ q.2.1 = p.2.1 ∧ q.2.2.1 = p.2.2.1 ∧ (q.2.2.2 = 0 ∨ (q.2.2.2 = sx_ln L0 p.1 + 1 ∧ sx_ln L0 p.1 % 8 = 1 ∧ p.2.1 ≤ p.2.2.1))) ∧
      ∀ ρb ρ cL, ρb <+: ρ → ax_Yk ρ Y n → cL.length = L.length → (∀ i, (∀ p ∈ ls, p.1 ≠ i) → ax_V ρ (sx_ln L i) (sx_ln cL i)) → (∀ q ∈ Eh, q.1 < L.length ∧ ax_Lq ρb q (sx_ln cL q.1)) → ∃ ρ1, ρ <+: ρ1 ∧ ax_Yk ρ1 Yh nh ∧ ax_Ls ρ1 Lh cL
  | [], L, E, Y, n, K, h => ⟨L, E, Y, n, h, rfl, fun _ q => q, fun _ _ => rfl, (fun _ hp => by cases hp), fun _ q => Or.inl q, fun ρb ρ cL _ hY hl hv _ => ⟨ρ, List.prefix_rfl, hY, ax_Ls.of hl (fun i => hv i (fun _ hp => by cases hp))⟩⟩
  | p :: ls, L, E, Y, n, K, h => by
    have h : sx_if (Nat.ble p.2.1 p.2.2.1) (sx_fo (sx_if (Nat.beq p.2.2.2 1) (sx_fo (sx_ln L0 p.1) (fun a => sx_if (Nat.beq (sx_tg a) 1) (Nat.succ a) 0)) 0) (fun a => ax_fr Y n p.2.1 p.2.2.1 a 0 0 0 (fun v Y n => sx_stK v L p.1 (fun L => ax_ol L0 ls L ((p.1, p.2.1, p.2.2.1, a) :: E) Y n K)))) (sx_stK (sx_if (Nat.beq p.2.1 1) 7 (sx_if (Nat.beq p.2.1 2) 23 39)) L p.1 (fun L => ax_ol L0 ls L ((p.1, p.2.1, p.2.2.1, 0) :: E) Y n K)) = some outs := h
    have fin : ∀ {v a : Nat} {Y1 : ax_Y} {n1 : Nat}, (a = 0 ∨ (a = sx_ln L0 p.1 + 1 ∧ sx_ln L0 p.1 % 8 = 1 ∧ p.2.1 ≤ p.2.2.1)) → ax_ol L0 ls (L.set p.1 v) ((p.1, p.2.1, p.2.2.1, a) :: E) Y1 n1 K = some outs →
        (∀ ρb ρ cL, ρb <+: ρ → ax_Yk ρ Y n → cL.length = L.length → ax_Lq ρb (p.1, p.2.1, p.2.2.1, a) (sx_ln cL p.1) → ∃ ρ1, ρ <+: ρ1 ∧ ax_Yk ρ1 Y1 n1 ∧ ax_V ρ1 v (sx_ln cL p.1)) → ∃ Lh Eh Yh nh, K Lh Eh Yh nh = some outs ∧ Lh.length = L.length ∧ (∀ q ∈ E, q ∈ Eh) ∧ (∀ i, (∀ p' ∈ p :: ls, p'.1 ≠ i) → sx_ln Lh i = sx_ln L i) ∧ (∀ p' ∈ p :: ls, ∃ q ∈ Eh, q.1 = p'.1) ∧
      (∀ q ∈ Eh, q ∈ E ∨ ∃ p' ∈ p :: ls, q.1 = p'.1 ∧ q.2.1 = p'.2.1 ∧ q.2.2.1 = p'.2.2.1 ∧ (q.2.2.2 = 0 ∨ (q.2.2.2 = sx_ln L0 p'.1 + 1 ∧ sx_ln L0 p'.1 % 8 = 1 ∧ p'.2.1 ≤ p'.2.2.1))) ∧
      ∀ ρb ρ cL, ρb <+: ρ → ax_Yk ρ Y n → cL.length = L.length → (∀ i, (∀ p' ∈ p :: ls, p'.1 ≠ i) → ax_V ρ (sx_ln L i) (sx_ln cL i)) → (∀ q ∈ Eh, q.1 < L.length ∧ ax_Lq ρb q (sx_ln cL q.1)) → ∃ ρ1, ρ <+: ρ1 ∧ ax_Yk ρ1 Yh nh ∧ ax_Ls ρ1 Lh cL := by
      intro v a Y1 n1 ha h1 hb
      obtain ⟨Lh, Eh, Yh, nh, k1, k2, k3, k4, k5, k6, k7⟩ := ax_ol_ok L0 ls h1
      have q0 : (p.1, p.2.1, p.2.2.1, a) ∈ Eh := k3 _ List.mem_cons_self
      rw [List.length_set] at k2
      refine ⟨Lh, Eh, Yh, nh, k1, k2, fun q hq => k3 q (List.mem_cons_of_mem _ hq), fun i hi => ?_, fun p' hp' => ?_, fun q hq => ?_, fun ρb ρ cL hp hY hl hv hE => ?_⟩
      · rw [k4 i (fun p' hp' => hi p' (List.mem_cons_of_mem _ hp'))]
        have ne : p.1 ≠ i := hi p List.mem_cons_self
        exact ax_ln_ne ne
      · rcases List.mem_cons.mp hp' with rfl | hp'
        · exact ⟨_, q0, rfl⟩
        · exact k5 p' hp'
      · rcases k6 q hq with hq | ⟨p', hp', m⟩
        · rcases List.mem_cons.mp hq with rfl | hq
          · exact Or.inr ⟨p, List.mem_cons_self, rfl, rfl, rfl, ha⟩
          · exact Or.inl hq
        · exact Or.inr ⟨p', List.mem_cons_of_mem _ hp', m⟩
      · obtain ⟨e1, e2⟩ := hE _ q0
        have e1 : p.1 < L.length := e1
        obtain ⟨ρ1, r1, r2, r3⟩ := hb ρb ρ cL hp hY hl e2
        have hv' : ∀ i, (∀ p' ∈ ls, p'.1 ≠ i) → ax_V ρ1 (sx_ln (L.set p.1 v) i) (sx_ln cL i) := fun i hi => by
          rw [ax_ln_set e1]
          by_cases e : i = p.1
          · rw [if_pos e, e]; exact r3
          · rw [if_neg e]
            refine (hv i (fun p' hp' => ?_)).mono r1
            rcases List.mem_cons.mp hp' with rfl | hp'
            · exact fun q => e q.symm
            · exact hi p' hp'
        obtain ⟨ρ2, s1, s2, s3⟩ := k7 ρb ρ1 cL (hp.trans r1) r2 (by rw [List.length_set]; exact hl) hv' (fun q hq => by rw [List.length_set]; exact hE q hq)
        exact ⟨ρ2, r1.trans s1, s2, s3⟩
    rcases ax_if h with ⟨c, h1⟩ | ⟨c, h1⟩
    · have c := sx_ble c
      rw [sx_fo_eq] at h1
      obtain ⟨n6, h2⟩ := ax_fr_h h1
      rw [sx_stK_eq] at h2
      refine fin ?_ h2 ?_
      · cases cg : Nat.beq p.2.2.2 1 with
        | false => exact Or.inl rfl
        | true =>
          rw [sx_if_t, sx_fo_eq]
          cases ct : Nat.beq (sx_tg (sx_ln L0 p.1)) 1 with
          | false => exact Or.inl rfl
          | true => exact Or.inr ⟨rfl, sx_beq ct, c⟩
      · intro ρb ρ cL hp hY hl hq
        obtain ⟨P, e, b1, b2, b3⟩ := hq.1 c
        have hE : ax_En ρ (sx_b P) (p.2.1, p.2.2.1, sx_if (Nat.beq p.2.2.2 1) (sx_fo (sx_ln L0 p.1) (fun a => sx_if (Nat.beq (sx_tg a) 1) (Nat.succ a) 0)) 0, 0, 0, 0) := by
          refine ⟨⟨b1, b2⟩, sx_b_lt P, fun q => ?_, fun q => by simp at q, fun q => by simp at q, fun q => by simp at q, fun q => by simp at q, fun q => by simp at q, fun q => by simp at q⟩
          obtain ⟨z, z1, z2⟩ := b3 (fun q0 => by
            have q0 : sx_if (Nat.beq p.2.2.2 1) (sx_fo (sx_ln L0 p.1) (fun a => sx_if (Nat.beq (sx_tg a) 1) (Nat.succ a) 0)) 0 = 0 := q0
            have q : (sx_if (Nat.beq p.2.2.2 1) (sx_fo (sx_ln L0 p.1) (fun a => sx_if (Nat.beq (sx_tg a) 1) (Nat.succ a) 0)) 0 - 1) % 8 = 1 := q
            rw [q0] at q
            cases q)
          exact ⟨z, z1.mono hp, z2⟩
        refine ⟨ρ ++ [sx_b P], List.prefix_append _ _, hY.cons hE, ?_⟩
        rw [e]
        exact ax_V.int (ax_sym_J n6 hY.1 (sx_b_lt P))
    · have c := sx_ble_f c
      rw [sx_stK_eq] at h1
      refine fin (Or.inl rfl) h1 ?_
      intro ρb ρ cL hp hY hl hq
      obtain ⟨b1, b2⟩ := hq.2 (by show ¬ p.2.1 ≤ p.2.2.1; omega)
      refine ⟨ρ, List.prefix_rfl, hY, ?_⟩
      cases c1 : Nat.beq p.2.1 1 with
      | true => exact Or.inr (Or.inr (Or.inl ⟨rfl, b1 (sx_beq c1)⟩))
      | false =>
        cases c2 : Nat.beq p.2.1 2 with
        | true => exact Or.inr (Or.inr (Or.inr (Or.inr (Or.inl ⟨rfl, b2 (sx_beq c2)⟩))))
        | false => exact Or.inr (Or.inr (Or.inr (Or.inr (Or.inr (Or.inr rfl)))))
/-- a place that changes -/
def ax_Mq (ρ : List Nat) (hh : sx_H) (q : Nat × Nat × Nat × Nat × Nat × Nat) : Prop := q.1 < 160 ∧ q.2.1 < (ax_cl q.1).1 / 256 ∧ ∃ P, sx_get (sx_rd hh q.1).2 q.2.1 = sx_i P ∧ q.2.2.2.1 ≤ sx_b P ∧ sx_b P ≤ q.2.2.2.2.1 ∧ (q.2.2.2.2.2 % 8 = 1 → ∃ z, ax_J ρ q.2.2.2.2.2 z ∧ z ≤ sx_b P)
theorem ax_om_ok (W : ax_W) (M0 : ax_M) : ∀ (ms : List (Nat × Nat × Nat × Nat)) {M : ax_M} {E : List (Nat × Nat × Nat × Nat × Nat × Nat)} {Y : ax_Y} {n : Nat} {K : ax_M → List (Nat × Nat × Nat × Nat × Nat × Nat) → ax_Y → Nat → ax_R}, ax_om M0 ms M E Y n K = some outs →
    ∃ Mh Eh Yh nh, K Mh Eh Yh nh = some outs ∧ (∀ q ∈ E, q ∈ Eh) ∧ (∀ q ∈ Eh, q ∈ E ∨ ∃ p ∈ ms, q.1 = p.1 ∧ q.2.1 = p.2.1 ∧ q.2.2.2.1 = p.2.2.1 ∧ q.2.2.2.2.1 = p.2.2.2 ∧ ax_mg M0 p.1 (Nat.mul 8 p.2.1) = some q.2.2.2.2.2) ∧
      ∀ ρb ρ hh, ρb <+: ρ → ax_Yk ρ Y n → ax_Mk W ρ M hh → (∀ q ∈ Eh, ax_Mq ρb hh q) → ∃ ρ1, ρ <+: ρ1 ∧ ax_Yk ρ1 Yh nh ∧ ax_Mk W ρ1 Mh hh ∧ ∀ q ∈ Eh, q ∈ E ∨ ax_V ρ1 q.2.2.1 (sx_get (sx_rd hh q.1).2 q.2.1)
  | [], M, E, Y, n, K, h => ⟨M, E, Y, n, h, fun _ q => q, fun _ q => Or.inl q, fun ρb ρ hh _ hY hM _ => ⟨ρ, List.prefix_rfl, hY, hM, fun _ q => Or.inl q⟩⟩
  | p :: ms, M, E, Y, n, K, h => by
    obtain ⟨a, ha, h1⟩ := ax_opt_h (o := ax_mg M0 p.1 (Nat.mul 8 p.2.1)) (f := fun a => ax_fr Y n p.2.2.1 p.2.2.2 (sx_if (Nat.beq (sx_tg a) 1) (Nat.succ a) 0) 0 0 0 (fun v Y n => sx_fo (Nat.mul 8 p.2.1) (fun key => ax_om M0 ms ((p.1, key, v) :: M) ((p.1, p.2.1, v, p.2.2.1, p.2.2.2, a) :: E) Y n K))) h
    obtain ⟨n6, h2⟩ := ax_fr_h h1
    rw [sx_fo_eq] at h2
    obtain ⟨Mh, Eh, Yh, nh, k1, k2, k3, k4⟩ := ax_om_ok W M0 ms h2
    have q0 : (p.1, p.2.1, ax_sym n, p.2.2.1, p.2.2.2, a) ∈ Eh := k2 _ List.mem_cons_self
    refine ⟨Mh, Eh, Yh, nh, k1, fun q hq => k2 q (List.mem_cons_of_mem _ hq), fun q hq => ?_, fun ρb ρ hh hp hY hM hE => ?_⟩
    · rcases k3 q hq with hq | ⟨p', hp', m⟩
      · rcases List.mem_cons.mp hq with rfl | hq
        · exact Or.inr ⟨p, List.mem_cons_self, rfl, rfl, rfl, rfl, ha⟩
        · exact Or.inl hq
      · exact Or.inr ⟨p', List.mem_cons_of_mem _ hp', m⟩
    · obtain ⟨c1, c2, P, e, b1, b2, b3⟩ := hE _ q0
      have c1 : p.1 < 160 := c1
      have c2 : p.2.1 < (ax_cl p.1).1 / 256 := c2
      have e : sx_get (sx_rd hh p.1).2 p.2.1 = sx_i P := e
      have l31 := ax_tk4_at p.1
      have hEn : ax_En ρ (sx_b P) (p.2.2.1, p.2.2.2, sx_if (Nat.beq (sx_tg a) 1) (Nat.succ a) 0, 0, 0, 0) := by
        refine ⟨⟨b1, b2⟩, sx_b_lt P, fun q => ?_, fun q => by simp at q, fun q => by simp at q, fun q => by simp at q, fun q => by simp at q, fun q => by simp at q, fun q => by simp at q⟩
        have q : (sx_if (Nat.beq (sx_tg a) 1) (Nat.succ a) 0 - 1) % 8 = 1 := q
        show ∃ z, ax_J ρ (sx_if (Nat.beq (sx_tg a) 1) (Nat.succ a) 0 - 1) z ∧ z ≤ sx_b P
        cases ct : Nat.beq (sx_tg a) 1 with
        | false => rw [ct, sx_if_f] at q; cases q
        | true =>
          obtain ⟨z, z1, z2⟩ := b3 (sx_beq ct)
          rw [sx_if_t]
          exact ⟨z, z1.mono hp, z2⟩
      have hp2 : ρ <+: ρ ++ [sx_b P] := List.prefix_append _ _
      have hJ := ax_sym_J n6 hY.1 (sx_b_lt P)
      have hV : ax_V (ρ ++ [sx_b P]) (ax_sym n) (sx_get (sx_rd hh p.1).2 p.2.1) := by rw [e]; exact ax_V.int hJ
      have hM2 : ax_Mk W (ρ ++ [sx_b P]) ((p.1, Nat.mul 8 p.2.1, ax_sym n) :: M) hh := ax_wr_cons (hM.mono hp2) c1 c2 (ax_J_n (by omega)) (fun _ => rfl) hV
      obtain ⟨ρ1, r1, r2, r3, r4⟩ := k4 ρb _ hh (hp.trans hp2) (hY.cons hEn) hM2 hE
      refine ⟨ρ1, hp2.trans r1, r2, r3, fun q hq => ?_⟩
      rcases r4 q hq with hq | hq
      · rcases List.mem_cons.mp hq with rfl | hq
        · exact Or.inr (hV.mono r1)
        · exact Or.inl hq
      · exact Or.inr hq
theorem ax_dl_mem {m : Nat × Nat × Nat} : ∀ {ms : List (Nat × Nat × Nat × Nat)} {M : ax_M}, m ∈ ax_dl ms M → m ∈ M
  | [], M, h => h
  | q :: ms, M, h => by
    have h : m ∈ (List.rec [] (fun m _ r => sx_if (sx_and (Nat.beq m.1 q.1) (Nat.beq m.2.1 (Nat.mul 8 q.2.1))) r (m :: r)) (ax_dl ms M) : ax_M) := h
    apply ax_dl_mem (ms := ms)
    revert h
    generalize ax_dl ms M = l
    intro h
    induction l with
    | nil => exact h
    | cons t l ih =>
      have h : m ∈ sx_if (sx_and (Nat.beq t.1 q.1) (Nat.beq t.2.1 (Nat.mul 8 q.2.1))) (List.rec [] (fun m _ r => sx_if (sx_and (Nat.beq m.1 q.1) (Nat.beq m.2.1 (Nat.mul 8 q.2.1))) r (m :: r)) l : ax_M) (t :: (List.rec [] (fun m _ r => sx_if (sx_and (Nat.beq m.1 q.1) (Nat.beq m.2.1 (Nat.mul 8 q.2.1))) r (m :: r)) l : ax_M)) := h
      cases c : sx_and (Nat.beq t.1 q.1) (Nat.beq t.2.1 (Nat.mul 8 q.2.1)) with
      | true => rw [c, sx_if_t] at h; exact List.mem_cons_of_mem _ (ih h)
      | false =>
        rw [c, sx_if_f] at h
        rcases List.mem_cons.mp h with rfl | h
        · exact List.mem_cons_self
        · exact List.mem_cons_of_mem _ (ih h)
theorem ax_li_ok {L : List Nat} : ∀ {ls : List (Nat × Nat × Nat × Nat)}, ax_li Y n L ls = true → ∀ q ∈ ls, q.1 < L.length ∧ (q.2.1 ≤ q.2.2.1 → ax_in Y n (sx_ln L q.1) q.2.1 q.2.2.1 = true) ∧ (¬ q.2.1 ≤ q.2.2.1 → (q.2.1 = 1 → ax_nl (sx_ln L q.1) = true) ∧ (q.2.1 = 2 → ax_lg (sx_ln L q.1) = true))
  | [], _, q, hq => by cases hq
  | p :: ls, h, q, hq => by
    have h : sx_and (sx_and (Nat.blt p.1 (List.length L)) (sx_if (Nat.ble p.2.1 p.2.2.1) (ax_in Y n (sx_ln L p.1) p.2.1 p.2.2.1) (sx_if (Nat.beq p.2.1 1) (ax_nl (sx_ln L p.1)) (sx_if (Nat.beq p.2.1 2) (ax_lg (sx_ln L p.1)) true)))) (ax_li Y n L ls) = true := h
    obtain ⟨h1, h2⟩ := sx_and_ok h
    rcases List.mem_cons.mp hq with rfl | hq
    · obtain ⟨h0, h1⟩ := sx_and_ok h1
      refine ⟨sx_blt h0, fun c => ?_, fun c => ⟨fun e => ?_, fun e => ?_⟩⟩
      · rw [show Nat.ble q.2.1 q.2.2.1 = true from Nat.ble_eq.mpr c, sx_if_t] at h1; exact h1
      · rw [sx_ble_e c, sx_if_f, sx_beq_t e, sx_if_t] at h1; exact h1
      · rw [sx_ble_e c, sx_if_f, sx_beq_e (by omega), sx_if_f, sx_beq_t e, sx_if_t] at h1; exact h1
    · exact ax_li_ok h2 q hq
theorem ax_lb_ok {L : List Nat} : ∀ {ls : List (Nat × Nat × Nat × Nat)}, ax_lb L F Y n ls = true → ∀ q ∈ ls, q.2.2.2 ≠ 0 → ax_le F Y n (q.2.2.2 - 1) 0 40 (sx_ln L q.1) = true
  | [], _, q, hq, _ => by cases hq
  | p :: ls, h, q, hq, h0 => by
    have h : sx_and (sx_if (Nat.beq p.2.2.2 0) true (ax_le F Y n (Nat.pred p.2.2.2) 0 40 (sx_ln L p.1))) (ax_lb L F Y n ls) = true := h
    obtain ⟨h1, h2⟩ := sx_and_ok h
    rcases List.mem_cons.mp hq with rfl | hq
    · rw [sx_beq_e h0, sx_if_f] at h1; exact h1
    · exact ax_lb_ok h2 q hq h0
theorem ax_lx_ok {L0 : List Nat} {K : List Nat → Bool} : ∀ {ls : List (Nat × Nat × Nat × Nat)} {L : List Nat}, ax_lx L0 ls L K = true → ∃ L', K L' = true ∧ L'.length = L.length ∧ ∀ i, (∀ q ∈ ls, q.1 ≠ i) → sx_ln L' i = sx_ln L i
  | [], L, h => ⟨L, h, rfl, fun _ _ => rfl⟩
  | p :: ls, L, h => by
    have h : sx_stK (sx_ln L0 p.1) L p.1 (fun L => ax_lx L0 ls L K) = true := h
    rw [sx_stK_eq] at h
    obtain ⟨L', h1, h2, h3⟩ := ax_lx_ok h
    refine ⟨L', h1, by rw [h2, List.length_set], fun i hi => ?_⟩
    rw [h3 i (fun q hq => hi q (List.mem_cons_of_mem _ hq))]
    have ne : p.1 ≠ i := hi p List.mem_cons_self
    exact ax_ln_ne ne
theorem ax_le7_ok : ∀ {a b : List Nat}, ax_le7 a b = true → a.length = b.length ∧ ∀ i, (sx_ln b i = 39 ∨ (sx_ln b i = 7 ∧ ax_nl (sx_ln a i) = true) ∨ (sx_ln b i = 23 ∧ ax_lg (sx_ln a i) = true) ∨ sx_ln a i = sx_ln b i)
  | [], [], _ => ⟨rfl, fun _ => Or.inr (Or.inr (Or.inr rfl))⟩
  | [], _ :: _, h => by cases h
  | _ :: _, [], h => by cases h
  | x :: a, y :: b, h => by
    have h : sx_and (sx_if (Nat.beq y 39) true (sx_if (Nat.beq y 7) (ax_nl x) (sx_if (Nat.beq y 23) (ax_lg x) (Nat.beq x y)))) (ax_le7 a b) = true := h
    obtain ⟨h1, h2⟩ := sx_and_ok h
    obtain ⟨k1, k2⟩ := ax_le7_ok h2
    refine ⟨by rw [List.length_cons, List.length_cons, k1], fun i => ?_⟩
    cases i with
    | succ i => exact k2 i
    | zero =>
      show y = 39 ∨ (y = 7 ∧ ax_nl x = true) ∨ (y = 23 ∧ ax_lg x = true) ∨ x = y
      cases c1 : Nat.beq y 39 with
      | true => exact Or.inl (sx_beq c1)
      | false =>
        rw [c1, sx_if_f] at h1
        cases c2 : Nat.beq y 7 with
        | true => rw [c2, sx_if_t] at h1; exact Or.inr (Or.inl ⟨sx_beq c2, h1⟩)
        | false =>
          rw [c2, sx_if_f] at h1
          cases c3 : Nat.beq y 23 with
          | true => rw [c3, sx_if_t] at h1; exact Or.inr (Or.inr (Or.inl ⟨sx_beq c3, h1⟩))
          | false => rw [c3, sx_if_f] at h1; exact Or.inr (Or.inr (Or.inr (sx_beq h1)))
theorem ax_mb_ok {M : ax_M} : ∀ {E : List (Nat × Nat × Nat × Nat × Nat × Nat)}, ax_mb M F Y n E = true → ∀ q ∈ E, ∃ v, ax_mg M q.1 (Nat.mul 8 q.2.1) = some v ∧ ax_in Y n v q.2.2.2.1 q.2.2.2.2.1 = true ∧ (q.2.2.2.2.2 % 8 = 1 → ax_le F Y n q.2.2.2.2.2 0 40 v = true)
  | [], _, q, hq => by cases hq
  | p :: E, h, q, hq => by
    have h : sx_and (Option.rec false (fun v => sx_and (ax_in Y n v p.2.2.2.1 p.2.2.2.2.1) (sx_if (Nat.beq (sx_tg p.2.2.2.2.2) 1) (ax_le F Y n p.2.2.2.2.2 0 40 v) true)) (ax_mg M p.1 (Nat.mul 8 p.2.1))) (ax_mb M F Y n E) = true := h
    obtain ⟨h1, h2⟩ := sx_and_ok h
    rcases List.mem_cons.mp hq with rfl | hq
    · cases hm : ax_mg M q.1 (Nat.mul 8 q.2.1) with
      | none => rw [hm] at h1; cases h1
      | some v =>
        rw [hm] at h1
        obtain ⟨k1, k2⟩ := sx_and_ok h1
        refine ⟨v, rfl, k1, fun t => ?_⟩
        rw [sx_beq_t (show sx_tg q.2.2.2.2.2 = 1 from t), sx_if_t] at k2
        exact k2
    · exact ax_mb_ok h2 q hq
theorem ax_me_ok {M : ax_M} : ∀ {M0 : ax_M}, ax_me Y n M M0 = true → ∀ m ∈ M0, ∃ v, ax_mg M m.1 m.2.1 = some v ∧ (v = m.2.2 ∨ ax_nm Y n v (fun v => ax_nm Y n m.2.2 (fun u => Nat.beq v u)) = true)
  | [], _, q, hq => by cases hq
  | p :: M0, h, q, hq => by
    have h : sx_and (Option.rec false (fun v => sx_if (Nat.beq v p.2.2) true (ax_nm Y n v (fun v => ax_nm Y n p.2.2 (fun u => Nat.beq v u)))) (ax_mg M p.1 p.2.1)) (ax_me Y n M M0) = true := h
    obtain ⟨h1, h2⟩ := sx_and_ok h
    rcases List.mem_cons.mp hq with rfl | hq
    · cases hm : ax_mg M q.1 q.2.1 with
      | none => rw [hm] at h1; cases h1
      | some v =>
        rw [hm] at h1
        refine ⟨v, rfl, ?_⟩
        rcases ax_or h1 with k | k
        · exact Or.inl (sx_beq k)
        · exact Or.inr k
    · exact ax_me_ok h2 q hq
end AXHead
end
section
/-! ax: a loop ends; the run is right -/
def ax_Inv (W : ax_W) (ρ : List Nat) (Lh : List Nat) (E0 : List (Nat × Nat × Nat × Nat)) (E : List (Nat × Nat × Nat × Nat × Nat × Nat)) (Mb : ax_M) (th : Nat) (cL : List Nat) (hh : sx_H) (cs ss : Nat) : Prop :=
  cL.length = Lh.length ∧ (∀ i, (∀ q ∈ E0, q.1 ≠ i) → ax_V ρ (sx_ln Lh i) (sx_ln cL i)) ∧ (∀ q ∈ E0, q.1 < Lh.length ∧ ax_Lq ρ q (sx_ln cL q.1)) ∧ (∀ q ∈ E, ax_Mq ρ hh q) ∧ ax_Mk W ρ Mb hh ∧ ax_Hs hh ∧ ax_Fr W.h0 W.md hh ∧ cs ≤ W.cb + th ∧ ss ≤ W.sb + 6 * th ∧ cs ≤ W.cb + W.lim ∧ ss ≤ W.sb + 6 * W.lim
/-- what the loop ends by -/
noncomputable def ax_mu (E : List (Nat × Nat × Nat × Nat × Nat × Nat)) (rk ix dir : Nat) (cL : List Nat) (hh : sx_H) : Nat :=
  sx_if (Nat.beq dir 1) (4294967296 - sx_if (Nat.beq rk 0) (sx_bs (sx_pl (sx_ln cL ix))) (Option.rec 0 (fun q => sx_bs (sx_pl (sx_get (sx_rd hh q.1).2 q.2.1))) (sx_nth E ix)))
    (sx_if (Nat.beq rk 0) (sx_bs (sx_pl (sx_ln cL ix))) (Option.rec 0 (fun q => sx_bs (sx_pl (sx_get (sx_rd hh q.1).2 q.2.1))) (sx_nth E ix)))
section AXStp
variable {W : ax_W} {ih : ax_ih} {g : ax_G} {d D mi cd : Nat} {lst : List ax_I} {pc : Nat} {L S : List Nat} {M : ax_M} {F : ax_F} {Y : ax_Y} {n th : Nat} {ρ : List Nat} {outs : List ax_O} {hh : sx_H} {cs ss : Nat} {cL cS : List Nat} {Post : sx_O → Prop}
theorem ax_nil_t {S : List Nat} (h : (List.rec true (fun _ _ _ => false) S : Bool) = true) : S = [] := by
  cases S with
  | nil => rfl
  | cons a t => cases h
theorem ax_nm_eq {v u c1 c0 : Nat} (hY : ax_Yk ρ Y n) (h : ax_nm Y n v (fun v => ax_nm Y n u (fun u => Nat.beq v u)) = true) (h1 : ax_V ρ v c1) (h0 : ax_V ρ u c0) : v = u ∨ (u % 8 ≤ 1 ∧ c1 = c0) := by
  by_cases tv : v % 8 ≤ 1
  · obtain ⟨P1, j1, rfl⟩ := h1.toInt tv
    obtain ⟨v', g1, k1⟩ := ax_nm_ok (K := fun v => ax_nm Y n u (fun u => Nat.beq v u)) hY j1
    rw [g1] at h
    by_cases tu : u % 8 ≤ 1
    · obtain ⟨P0, j0, rfl⟩ := h0.toInt tu
      obtain ⟨u', g0, k0⟩ := ax_nm_ok (K := fun u => Nat.beq v' u) hY j0
      rw [g0] at h
      have e := sx_beq h
      subst e
      have := sx_b_inj (k1.uniq k0)
      subst this
      exact Or.inr ⟨tu, rfl⟩
    · rw [ax_nm_ne (by omega)] at h
      have e := sx_beq h
      subst e
      have := k1.tag
      omega
  · rw [ax_nm_ne (by omega)] at h
    by_cases tu : u % 8 ≤ 1
    · obtain ⟨P0, j0, rfl⟩ := h0.toInt tu
      obtain ⟨u', g0, k0⟩ := ax_nm_ok (K := fun u => Nat.beq v u) hY j0
      rw [g0] at h
      have e := sx_beq h
      subst e
      have := k0.tag
      omega
    · rw [ax_nm_ne (by omega)] at h
      exact Or.inl (sx_beq h)
theorem ax_back_ok {ρ0 ρ1 ρ' : List Nat} {Lh : List Nat} {E0 : List (Nat × Nat × Nat × Nat)} {E : List (Nat × Nat × Nat × Nat × Nat × Nat)} {Mb : ax_M} {rk ix dir th' : Nat} {cL' : List Nat} {hh' : sx_H} {cs' ss' : Nat}
    (I : ax_Inv W ρ0 Lh E0 E Mb th cL hh cs ss) (p01 : ρ0 <+: ρ1) (hL1 : ax_Ls ρ1 Lh cL) (hE1 : ∀ q ∈ E, ax_V ρ1 q.2.2.1 (sx_get (sx_rd hh q.1).2 q.2.1)) (p1 : ρ1 <+: ρ') (X : ax_X W ρ' M F Y n th' hh' cs' ss') (HL : ax_Ls ρ' L cL') (h : ax_bc (pc, Nat.mul 2 th, Lh, Mb, E, E0, rk, ix, dir) L S M F Y n th' = true) :
    S = [] ∧ ax_Inv W ρ0 Lh E0 E Mb th cL' hh' cs' ss' ∧ ax_mu E rk ix dir cL' hh' < ax_mu E rk ix dir cL hh := by
  obtain ⟨I1, I2, I3, I4, I5, I6, I7, I8, I9, I10, I11⟩ := I
  have p0 := p01.trans p1
  have h : sx_and (sx_and (Nat.ble (Nat.mul 2 th') (Nat.mul 2 th)) (List.rec true (fun _ _ _ => false) S)) (sx_and (sx_and (ax_li Y n L E0) (ax_lb L F Y n E0)) (sx_and (ax_lx Lh E0 L (fun L => ax_le7 L Lh)) (sx_and (ax_mb M F Y n E) (sx_and (ax_me Y n M Mb) (ax_rk (pc, Nat.mul 2 th, Lh, Mb, E, E0, rk, ix, dir) L M F Y n))))) = true := h
  obtain ⟨a1, h⟩ := sx_and_ok h
  obtain ⟨a1, a2⟩ := sx_and_ok a1
  obtain ⟨a3, h⟩ := sx_and_ok h
  obtain ⟨a3, a4⟩ := sx_and_ok a3
  obtain ⟨a5, h⟩ := sx_and_ok h
  obtain ⟨a6, h⟩ := sx_and_ok h
  obtain ⟨a7, a8⟩ := sx_and_ok h
  have a1 : 2 * th' ≤ 2 * th := sx_ble a1
  obtain ⟨L', l1, l2, l3⟩ := ax_lx_ok a5
  obtain ⟨l4, l5⟩ := ax_le7_ok l1
  have hl := HL.len
  have r1 := X.r1
  have r2 := X.r2
  refine ⟨ax_nil_t a2, ⟨by omega, fun i hi => ?_, fun q hq => ?_, fun q hq => ?_, fun m hm => ?_, X.hs, X.fr, by omega, by omega, X.r3, X.r4⟩, ?_⟩
  · have e := l3 i hi
    rcases l5 i with k | ⟨k, k2⟩ | ⟨k, k2⟩ | k
    · rw [k]; exact Or.inr (Or.inr (Or.inr (Or.inr (Or.inr (Or.inr rfl)))))
    · rw [e] at k2
      rw [k]; exact Or.inr (Or.inr (Or.inl ⟨rfl, (HL.ln i).nl k2⟩))
    · rw [e] at k2
      rw [k]; exact Or.inr (Or.inr (Or.inr (Or.inr (Or.inl ⟨rfl, (HL.ln i).lg k2⟩))))
    · rw [e] at k
      have hv := HL.ln i
      rw [k] at hv
      exact hv.down (I2 i hi) p0
  · obtain ⟨k1, k2, k3⟩ := ax_li_ok a3 q hq
    obtain ⟨o1, o2, o3⟩ := I3 q hq
    refine ⟨o1, fun c => ?_, fun c => ⟨fun e => (HL.ln q.1).nl ((k3 c).1 e), fun e => (HL.ln q.1).lg ((k3 c).2 e)⟩⟩
    have k2 := k2 c
    obtain ⟨P, j, e⟩ := (HL.ln q.1).toInt (ax_in_tag k2)
    have b := ax_in_ok k2 X.yk j
    refine ⟨P, e, b.1, b.2, fun na => ?_⟩
    obtain ⟨P0, -, -, -, w⟩ := o2 c
    obtain ⟨z, z1, z2⟩ := w na
    have le := ax_le_ok X.yk X.fk (z1.mono p0) j (ax_lb_ok a4 q hq na)
    exact ⟨z, z1, by omega⟩
  · obtain ⟨v, v1, v2, v3⟩ := ax_mb_ok a6 q hq
    obtain ⟨o1, o2, P0, -, -, -, o3⟩ := I4 q hq
    obtain ⟨k1, k2⟩ := X.mm.pl o1 v1
    obtain ⟨P, j, e⟩ := k2.toInt (ax_in_tag v2)
    have b := ax_in_ok v2 X.yk j
    refine ⟨o1, k1, P, e, b.1, b.2, fun t => ?_⟩
    obtain ⟨z, z1, z2⟩ := o3 t
    have le := ax_le_ok X.yk X.fk (z1.mono p0) j (v3 t)
    exact ⟨z, z1, by omega⟩
  · rcases I5 m hm with q | ⟨q1, j, q2, q3, q4, q5⟩
    · exact Or.inl q
    · refine Or.inr ⟨q1, j, q2, q3, q4, ?_⟩
      obtain ⟨v, v1, v2⟩ := ax_me_ok a7 m hm
      have hv := X.mm.at v1 q1 (q3.mono p0)
      rcases v2 with v2 | v2
      · rw [v2] at hv
        exact hv.down q5 p0
      · rcases ax_nm_eq X.yk v2 hv (q5.mono p0) with e | ⟨-, e⟩
        · rw [e] at hv
          exact hv.down q5 p0
        · rw [e]; exact q5
  · have key : ∀ {a b va vb : Nat}, ax_V ρ' a va → ax_V ρ' b vb → ax_ii a b = true → sx_if (Nat.beq dir 1) (ax_le F Y n a 1 40 b) (ax_le F Y n b 1 40 a) = true → sx_if (Nat.beq dir 1) (4294967296 - sx_bs (sx_pl vb)) (sx_bs (sx_pl vb)) < sx_if (Nat.beq dir 1) (4294967296 - sx_bs (sx_pl va)) (sx_bs (sx_pl va)) := by
      intro a b va vb ha hb hii hle
      obtain ⟨P, Q, jp, jq, rfl, rfl⟩ := ax_ii_ok ha hb hii
      rw [ax_bs_pl, ax_bs_pl]
      have lp := sx_b_lt P
      have lq := sx_b_lt Q
      cases c : Nat.beq dir 1 with
      | true =>
        rw [c, sx_if_t] at hle
        have := ax_le_ok X.yk X.fk jp jq hle
        rw [sx_if_t, sx_if_t]
        omega
      | false =>
        rw [c, sx_if_f] at hle
        have := ax_le_ok X.yk X.fk jq jp hle
        rw [sx_if_f, sx_if_f]
        omega
    have a8 : sx_if (Nat.beq rk 0) (sx_fo (sx_ln Lh ix) (fun v0 => sx_fo (sx_ln L ix) (fun v => sx_and (ax_ii v0 v) (sx_if (Nat.beq dir 1) (ax_le F Y n v0 1 40 v) (ax_le F Y n v 1 40 v0)))))
      (Option.rec false (fun q => Option.rec false (fun v => sx_and (ax_ii q.2.2.1 v) (sx_if (Nat.beq dir 1) (ax_le F Y n q.2.2.1 1 40 v) (ax_le F Y n v 1 40 q.2.2.1))) (ax_mg M q.1 (Nat.mul 8 q.2.1))) (sx_nth E ix)) = true := a8
    unfold ax_mu
    cases c : Nat.beq rk 0 with
    | true =>
      rw [c, sx_if_t, sx_fo_eq, sx_fo_eq] at a8
      obtain ⟨b1, b2⟩ := sx_and_ok a8
      rw [sx_if_t, sx_if_t]
      exact key ((hL1.mono' p1).ln ix) (HL.ln ix) b1 b2
    | false =>
      rw [c, sx_if_f] at a8
      rw [sx_if_f, sx_if_f]
      cases hn : sx_nth E ix with
      | none => rw [hn] at a8; cases a8
      | some q =>
        rw [hn] at a8
        have hq : q ∈ E := by rw [sx_nth_eq] at hn; exact List.mem_of_getElem? hn
        cases hm : ax_mg M q.1 (Nat.mul 8 q.2.1) with
        | none =>
          have a8 : (Option.rec false (fun v => sx_and (ax_ii q.2.2.1 v) (sx_if (Nat.beq dir 1) (ax_le F Y n q.2.2.1 1 40 v) (ax_le F Y n v 1 40 q.2.2.1))) (ax_mg M q.1 (Nat.mul 8 q.2.1)) : Bool) = true := a8
          rw [hm] at a8; cases a8
        | some v =>
          have a8 : (Option.rec false (fun v => sx_and (ax_ii q.2.2.1 v) (sx_if (Nat.beq dir 1) (ax_le F Y n q.2.2.1 1 40 v) (ax_le F Y n v 1 40 q.2.2.1))) (ax_mg M q.1 (Nat.mul 8 q.2.1)) : Bool) = true := a8
          rw [hm] at a8
          obtain ⟨b1, b2⟩ := sx_and_ok a8
          exact key ((hE1 q hq).mono p1) (X.mm.pl (I4 q hq).1 hm).2 b1 b2
theorem ax_loop_ok (ok : ax_Ok W ih) (dd : d ≤ D) {ρ0 : List Nat} {Lh : List Nat} {E0 : List (Nat × Nat × Nat × Nat)} {E : List (Nat × Nat × Nat × Nat × Nat × Nat)} {Mb Mh : ax_M} {Yh : ax_Y} {nh rk ix dir : Nat}
    (h : ih d mi cd ((pc, Nat.mul 2 th, Lh, Mb, E, E0, rk, ix, dir) :: lst) true pc Lh [] Mh F Yh nh th = some outs)
    (build : ∀ cL hh cs ss, ax_Inv W ρ0 Lh E0 E Mb th cL hh cs ss → ∃ ρ1, ρ0 <+: ρ1 ∧ ax_Yk ρ1 Yh nh ∧ ax_Ls ρ1 Lh cL ∧ ax_Mk W ρ1 Mh hh ∧ ∀ q ∈ E, ax_V ρ1 q.2.2.1 (sx_get (sx_rd hh q.1).2 q.2.1))
    (hF : ax_Fk ρ0 F) (hnv : W.nv % 8 = 1 → ax_J ρ0 W.nv (2147483648 + W.N)) (Pq : ax_Pq W ρ0 outs Post) (Hq : ax_Hq W D mi cd ρ0 lst Post) : ∀ m cL hh cs ss, ax_Inv W ρ0 Lh E0 E Mb th cL hh cs ss → ax_mu E rk ix dir cL hh < m → cx_G W D mi cd pc cL [] hh cs ss Post := by
  intro m
  induction m with
  | zero => intro cL hh cs ss _ hm; exact absurd hm (Nat.not_lt_zero _)
  | succ m ihm =>
    intro cL hh cs ss I hm
    obtain ⟨ρ1, p1, y1, l1, m1, v1⟩ := build cL hh cs ss I
    have X1 : ax_X W ρ1 Mh F Yh nh th hh cs ss := by
      obtain ⟨-, -, -, -, -, I6, I7, I8, I9, I10, I11⟩ := I
      exact ⟨y1, hF.mono p1, m1, I6, I7, fun q => (hnv q).mono p1, I8, I9, I10, I11⟩
    refine ok d mi cd _ true pc Lh [] Mh F Yh nh th outs h D ρ1 cL [] hh cs ss Post dd X1 l1 ax_Ls.nil (Pq.sub (fun _ h => h) p1) ?_
    intro e he ρ' L' S' M' F' Y' n' th' cL' cS' hh' cs' ss' hp X' HL' HS' ht
    rcases List.mem_cons.mp he with rfl | he
    · have ht : sx_if (Nat.beq (Nat.mul 2 th) 1) _ (ax_bc (pc, Nat.mul 2 th, Lh, Mb, E, E0, rk, ix, dir) L' S' M' F' Y' n' th') = true := ht
      rw [sx_beq_e (show ¬ Nat.mul 2 th = 1 by show ¬ 2 * th = 1; omega), sx_if_f] at ht
      obtain ⟨b1, b2, b3⟩ := ax_back_ok I p1 l1 v1 hp X' HL' ht
      subst b1
      have e := HS'.nl
      subst e
      exact ihm cL' hh' cs' ss' b2 (Nat.lt_of_lt_of_le b3 (Nat.le_of_lt_succ hm))
    · exact Hq e he ρ' L' S' M' F' Y' n' th' cL' cS' hh' cs' ss' (p1.trans hp) X' HL' HS' ht
theorem ax_open_ok (ok : ax_Ok W ih) (dd : d ≤ D) (X : ax_X W ρ M F Y n th hh cs ss) (HL : ax_Ls ρ L cL) (Pq : ax_Pq W ρ outs Post) (Hq : ax_Hq W D mi cd ρ lst Post) {q : ax_H} (hli : ax_li Y n L q.2.1 = true) (hms : ax_ms M Y n q.2.2.1 = true) (h : ax_open ih d mi cd lst pc L M F Y n th q = some outs) : cx_G W D mi cd pc cL [] hh cs ss Post := by
  unfold ax_open at h
  obtain ⟨Lh, E0, Y1, n1, k1, k2, k3, k4, k5, k6, k7⟩ := ax_ol_ok L q.2.1 h
  obtain ⟨Mh, E, Yh, nh, j1, j2, j3, j4⟩ := ax_om_ok W M q.2.2.1 k1
  rw [sx_fo_eq] at j1
  have hps := ax_pm_ok X.yk X.mm hms
  refine ax_loop_ok (ρ0 := ρ) ok dd j1 ?_ X.fk X.nv Pq Hq _ cL hh cs ss ?_ (Nat.lt_succ_self _)
  · intro cL' hh' cs' ss' I
    obtain ⟨I1, I2, I3, I4, I5, -⟩ := I
    obtain ⟨ρ1, r1, r2, r3⟩ := k7 ρ ρ cL' List.prefix_rfl X.yk (by omega) (fun i hi => by
      have : ∀ q' ∈ E0, q'.1 ≠ i := fun q' hq' => by
        rcases k6 q' hq' with hq' | ⟨p, hp, e, -⟩
        · cases hq'
        · rw [e]; exact hi p hp
      have hv := I2 i this
      rw [k4 i hi] at hv
      exact hv) (fun q' hq' => by rw [← k2]; exact I3 q' hq')
    obtain ⟨ρ2, s1, s2, s3, s4⟩ := j4 ρ ρ1 hh' r1 r2 (I5.mono r1) I4
    exact ⟨ρ2, r1.trans s1, s2, r3.mono' s1, s3, fun q' hq' => (s4 q' hq').resolve_left (fun c => by cases c)⟩
  · have hl := HL.len
    refine ⟨by omega, fun i hi => ?_, fun q' hq' => ?_, fun q' hq' => ?_, fun m hm => X.mm m (ax_dr_mem (ax_dl_mem hm)).1, X.hs, X.fr, X.r1, X.r2, X.r3, X.r4⟩
    · rw [k4 i (fun p hp => by
        obtain ⟨q', w1, w2⟩ := k5 p hp
        rw [← w2]; exact hi q' w1)]
      exact HL.ln i
    · rcases k6 q' hq' with c | ⟨p, hp, e1, e2, e3, e4⟩
      · cases c
      · obtain ⟨o1, o2, o3⟩ := ax_li_ok hli p hp
        rw [e1]
        refine ⟨by omega, fun c => ?_, fun c => ?_⟩
        · rw [e2, e3] at c
          have o2 := o2 c
          obtain ⟨P, jj, e⟩ := (HL.ln p.1).toInt (ax_in_tag o2)
          have b := ax_in_ok o2 X.yk jj
          refine ⟨P, e, by rw [e2]; exact b.1, by rw [e3]; exact b.2, fun na => ?_⟩
          rcases e4 with e4 | ⟨e4, -, -⟩
          · exact absurd e4 na
          · exact ⟨sx_b P, by rw [e4, Nat.add_sub_cancel]; exact jj, Nat.le_refl _⟩
        · rw [e2, e3] at c
          rw [e2]
          exact ⟨fun e => (HL.ln p.1).nl ((o3 c).1 e), fun e => (HL.ln p.1).lg ((o3 c).2 e)⟩
    · rcases j3 q' hq' with c | ⟨p, hp, e1, e2, e3, e4, e5⟩
      · cases c
      · obtain ⟨o1, o2, P, o3, o4, o5⟩ := hps p hp
        refine ⟨by rw [e1]; exact o1, by rw [e1, e2]; exact o2, P, by rw [e1, e2]; exact o3, by rw [e3]; exact o4, by rw [e4]; exact o5, fun t => ?_⟩
        have hv := (X.mm.pl o1 e5).2
        obtain ⟨P0, jj, e⟩ := hv.toInt (by omega)
        rw [o3] at e
        have e : P0 = P := by
          have t1 := (sx_i_ok P0).2
          rw [← e, (sx_i_ok P).2] at t1
          exact t1.symm
        subst e
        exact ⟨_, jj, Nat.le_refl _⟩
theorem ax_any1_ok {pc : Nat} {t : ax_I → Bool} : ∀ {l : List ax_I}, ax_any1 pc t l = true → ∃ e ∈ l, e.1 = pc ∧ t e = true
  | [], h => by cases h
  | q :: l, h => by
    have h : sx_if (sx_and (Nat.beq q.1 pc) (t q)) true (ax_any1 pc t l) = true := h
    rcases ax_or h with k | k
    · obtain ⟨k1, k2⟩ := sx_and_ok k
      exact ⟨q, List.mem_cons_self, sx_beq k1, k2⟩
    · obtain ⟨e, h1, h2⟩ := ax_any1_ok k
      exact ⟨e, List.mem_cons_of_mem _ h1, h2⟩
theorem ax_step_ok (hG : ax_Gk W g) (hV : ax_Gv W.N W.sy g) (wk : ax_Wk W) (ok : ax_Ok W ih) {fl : Bool} (dd : d ≤ D) (X : ax_X W ρ M F Y n th hh cs ss) (HL : ax_Ls ρ L cL) (HS : ax_Ls ρ S cS) (Pq : ax_Pq W ρ outs Post) (Hq : ax_Hq W D mi cd ρ lst Post) (h : ax_step ih g d mi cd lst pc L S M F Y n th fl = some outs) : cx_G W D mi cd pc cL cS hh cs ss Post := by
  unfold ax_step at h
  rcases ax_if h with ⟨-, h1⟩ | ⟨-, h1⟩
  · exact ax_nx_ok hG hV wk ok dd X HL HS Pq Hq h1
  · rcases ax_if h1 with ⟨c, -⟩ | ⟨-, h2⟩
    · obtain ⟨e, he, rfl, ht⟩ := ax_any1_ok c
      exact Hq e he ρ L S M F Y n th cL cS hh cs ss List.prefix_rfl X HL HS ht
    · cases hh1 : ax_hd g.2.2.2.1 mi pc with
      | none => rw [hh1] at h2; exact ax_nx_ok hG hV wk ok dd X HL HS Pq Hq h2
      | some q =>
        rw [hh1] at h2
        have h2 : sx_if (sx_and (List.rec true (fun _ _ _ => false) S) (sx_and (ax_li Y n L q.2.1) (ax_ms M Y n q.2.2.1))) (ax_open ih d mi cd lst pc L M F Y n th q) (ax_nx ih g d mi cd lst pc L S M F Y n th) = some outs := h2
        rcases ax_if h2 with ⟨c, h3⟩ | ⟨-, h3⟩
        · obtain ⟨c1, c2⟩ := sx_and_ok c
          obtain ⟨c2, c3⟩ := sx_and_ok c2
          have e := ax_nil_t c1
          subst e
          have e := HS.nl
          subst e
          exact ax_open_ok ok dd X HL Pq Hq c2 c3 h3
        · exact ax_nx_ok hG hV wk ok dd X HL HS Pq Hq h3
theorem ax_run_ok (hG : ax_Gk W g) (hV : ax_Gv W.N W.sy g) (wk : ax_Wk W) : ∀ fuel, ax_Ok W (ax_run g fuel)
  | 0 => fun d mi cd lst fl pc L S M F Y n th outs h => by cases h
  | f + 1 => fun d mi cd lst fl pc L S M F Y n th outs h D ρ cL cS hh cs ss Post dd X HL HS Pq Hq =>
    ax_step_ok hG hV wk (ax_run_ok hG hV wk f) (fl := fl) dd X HL HS Pq Hq h
end AXStp
end
section
/-! ax: a contract that was held against its method's run is valid -/
theorem ax_Ls.app {ρ : List Nat} : ∀ {a ca b cb : List Nat}, ax_Ls ρ a ca → ax_Ls ρ b cb → ax_Ls ρ (a ++ b) (ca ++ cb)
  | [], [], _, _, _, h => h
  | _ :: _, _ :: _, _, _, h1, h => ⟨h1.1, ax_Ls.app h1.2 h⟩
  | [], _ :: _, _, _, h1, _ => h1.elim
  | _ :: _, [], _, _, h1, _ => h1.elim
theorem ax_Ls.rev {ρ : List Nat} : ∀ {a ca : List Nat}, ax_Ls ρ a ca → ax_Ls ρ a.reverse ca.reverse
  | [], [], h => h
  | _ :: _, _ :: _, h => by
    rw [List.reverse_cons, List.reverse_cons]
    exact (ax_Ls.rev h.2).app (ax_Ls.cons h.1 ax_Ls.nil)
  | [], _ :: _, h => h.elim
  | _ :: _, [], h => h.elim
theorem ax_V.re {ρ ρ' : List Nat} {a v : Nat} (h : ax_V ρ a v) (t : a % 8 ≠ 1) : ax_V ρ' a v := by
  rcases h with ⟨h1, P, ⟨h2, h3 | ⟨h3, -⟩⟩, h4⟩ | h
  · exact Or.inl ⟨h1, P, ⟨h2, Or.inl h3⟩, h4⟩
  · exact absurd h3 t
  · exact Or.inr h
section AXChk
variable {outs : List ax_O}
theorem ax_sa_ok {K : List Nat → ax_Y → Nat → ax_R} : ∀ {as : List (Nat × Nat × Nat)} {Y : ax_Y} {n : Nat} {acc cav cacc ρ : List Nat}, ax_sa as Y n acc K = some outs → ax_Yk ρ Y n → ax_Ls ρ acc cacc → ax_As as cav → ∃ ρ' av Y' n', K av Y' n' = some outs ∧ ρ <+: ρ' ∧ ax_Yk ρ' Y' n' ∧ ax_Ls ρ' av (cacc.reverse ++ cav)
  | [], Y, n, acc, [], cacc, ρ, h, hY, hA, _ => ⟨ρ, acc.reverse, Y, n, h, List.prefix_rfl, hY, by rw [List.append_nil]; exact hA.rev⟩
  | [], Y, n, acc, _ :: _, cacc, ρ, h, hY, hA, H => H.elim
  | _ :: _, Y, n, acc, [], cacc, ρ, h, hY, hA, H => H.elim
  | q :: as, Y, n, acc, v :: cav, cacc, ρ, h, hY, hA, H => by
    have h : sx_if (Nat.beq q.1 0) (sx_if (Nat.beq (sx_tg q.2.1) 1) none (ax_sa as Y n (q.2.1 :: acc) K)) (sx_if (Nat.beq q.1 2) (ax_sa as Y n (23 :: acc) K) (ax_fr Y n q.2.1 q.2.2 0 0 0 0 (fun v Y n => ax_sa as Y n (v :: acc) K))) = some outs := h
    have fin : ∀ {a : Nat} {Y1 : ax_Y} {n1 : Nat} {ρ1 : List Nat}, ax_sa as Y1 n1 (a :: acc) K = some outs → ρ <+: ρ1 → ax_Yk ρ1 Y1 n1 → ax_V ρ1 a v → ∃ ρ' av Y' n', K av Y' n' = some outs ∧ ρ <+: ρ' ∧ ax_Yk ρ' Y' n' ∧ ax_Ls ρ' av (cacc.reverse ++ v :: cav) := by
      intro a Y1 n1 ρ1 h1 hp hY1 hv
      obtain ⟨ρ', av, Y', n', k1, k2, k3, k4⟩ := ax_sa_ok h1 hY1 (ax_Ls.cons hv (hA.mono' hp)) H.2
      rw [List.reverse_cons, List.append_assoc] at k4
      exact ⟨ρ', av, Y', n', k1, hp.trans k2, k3, k4⟩
    rcases ax_if h with ⟨c, h1⟩ | ⟨c, h1⟩
    · rcases ax_if h1 with ⟨-, h2⟩ | ⟨c1, h2⟩
      · cases h2
      · have c := sx_beq c
        rcases H.1 with ⟨-, ρ0, hv⟩ | ⟨n0, -⟩ | ⟨n0, -⟩
        · exact fin h2 List.prefix_rfl hY (hv.re (sx_beq_f c1))
        · exact absurd c n0
        · exact absurd c n0
    · have c := sx_beq_f c
      rcases ax_if h1 with ⟨c2, h2⟩ | ⟨c2, h2⟩
      · have c2 := sx_beq c2
        rcases H.1 with ⟨n0, -⟩ | ⟨-, -, hv⟩ | ⟨-, n2, -⟩
        · exact absurd n0 c
        · exact fin h2 List.prefix_rfl hY (Or.inr (Or.inr (Or.inr (Or.inr (Or.inl ⟨rfl, hv⟩)))))
        · exact absurd c2 n2
      · have c2 := sx_beq_f c2
        rcases H.1 with ⟨n0, -⟩ | ⟨-, n2, -⟩ | ⟨-, -, P, e, b1, b2⟩
        · exact absurd n0 c
        · exact absurd n2 c2
        · obtain ⟨u, k1, k2, k3⟩ := ax_fr_ok h2 hY (ax_En.plain b1 b2 (sx_b_lt P))
          exact fin k1 (List.prefix_append _ _) k2 (by rw [e]; exact ax_V.int k3)
theorem ax_sp_ok {W : ax_W} {hh : sx_H} {K : ax_M → ax_Y → Nat → ax_R} : ∀ {ps : List (Nat × Nat × Nat × Nat)} {M : ax_M} {Y : ax_Y} {n : Nat} {ρ : List Nat}, ax_sp ps M Y n K = some outs → ax_Yk ρ Y n → ax_Mk W ρ M hh → (∀ m ∈ M, m.2.2 % 8 ≤ 1) → ax_Ps ps hh → ∃ ρ' M' Y' n', K M' Y' n' = some outs ∧ ρ <+: ρ' ∧ ax_Yk ρ' Y' n' ∧ ax_Mk W ρ' M' hh ∧ ∀ m ∈ M', m.2.2 % 8 ≤ 1
  | [], M, Y, n, ρ, h, hY, hM, hi, _ => ⟨ρ, M, Y, n, h, List.prefix_rfl, hY, hM, hi⟩
  | q :: ps, M, Y, n, ρ, h, hY, hM, hi, H => by
    have h : ax_fr Y n q.2.2.1 q.2.2.2 0 0 0 0 (fun v Y n => sx_fo (Nat.mul 8 q.2.1) (fun key => ax_sp ps ((q.1, key, v) :: M) Y n K)) = some outs := h
    obtain ⟨c1, c2, P, e, b1, b2⟩ := H q List.mem_cons_self
    obtain ⟨u, k1, k2, k3⟩ := ax_fr_ok h hY (ax_En.plain b1 b2 (sx_b_lt P))
    rw [sx_fo_eq] at k1
    have hp : ρ <+: ρ ++ [sx_b P] := List.prefix_append _ _
    have l31 := ax_tk4_at q.1
    obtain ⟨ρ', M', Y', n', m1, m2, m3, m4, m5⟩ := ax_sp_ok (W := W) (hh := hh) k1 k2 (ax_wr_cons (hM.mono hp) c1 c2 (ax_J_n (by omega)) (fun _ => rfl) (by rw [e]; exact ax_V.int k3)) (fun m hm => by
      rcases List.mem_cons.mp hm with rfl | hm
      · have := k3.tag
        show u % 8 ≤ 1
        omega
      · exact hi m hm) (fun q hq => H q (List.mem_cons_of_mem _ hq))
    exact ⟨ρ', M', Y', n', m1, hp.trans m2, m3, m4, m5⟩
theorem ax_tp_ok {W : ax_W} {M0 M : ax_M} {F : ax_F} {Y : ax_Y} {n : Nat} {ρ0 ρ : List Nat} {h0 hh : sx_H} (hp : ρ0 <+: ρ) (hM0 : ax_Mk W ρ0 M0 h0) (hi : ∀ m ∈ M0, m.2.2 % 8 ≤ 1) (hY : ax_Yk ρ Y n) (hF : ax_Fk ρ F) (hM : ax_Mk W ρ M hh) : ∀ {ps : List ax_P}, ax_tp M0 M F Y n ps = true → ∀ q ∈ ps, q.1 < 160 ∧ q.2.1 < (ax_cl q.1).1 / 256 ∧ ∃ P, sx_get (sx_rd hh q.1).2 q.2.1 = sx_i P ∧ q.2.2.1 ≤ sx_b P ∧ sx_b P ≤ q.2.2.2.1 ∧ (q.2.2.2.2 ≠ 0 → ∃ O, sx_get (sx_rd h0 q.1).2 q.2.1 = sx_i O ∧ sx_b O + (q.2.2.2.2 - 1) ≤ sx_b P)
  | [], _, q, hq => by cases hq
  | p :: ps, h, q, hq => by
    have h : sx_and (sx_and (Nat.blt p.1 160) (Option.rec false (fun v => sx_and (ax_in Y n v p.2.2.1 p.2.2.2.1) (sx_if (Nat.beq p.2.2.2.2 0) true (Option.rec false (fun u => ax_le F Y n u (Nat.pred p.2.2.2.2) 40 v) (ax_mg M0 p.1 (Nat.mul 8 p.2.1))))) (ax_mg M p.1 (Nat.mul 8 p.2.1)))) (ax_tp M0 M F Y n ps) = true := h
    obtain ⟨h1, h2⟩ := sx_and_ok h
    rcases List.mem_cons.mp hq with rfl | hq
    · obtain ⟨c, h1⟩ := sx_and_ok h1
      have c : q.1 < 160 := sx_blt c
      cases hm : ax_mg M q.1 (Nat.mul 8 q.2.1) with
      | none => rw [hm] at h1; cases h1
      | some v =>
        rw [hm] at h1
        obtain ⟨k1, k2⟩ := sx_and_ok h1
        obtain ⟨l1, l2⟩ := hM.pl c hm
        obtain ⟨P, j, e⟩ := l2.toInt (ax_in_tag k1)
        have b := ax_in_ok k1 hY j
        refine ⟨c, l1, P, e, b.1, b.2, fun nz => ?_⟩
        rw [sx_beq_e nz, sx_if_f] at k2
        cases hm0 : ax_mg M0 q.1 (Nat.mul 8 q.2.1) with
        | none => rw [hm0] at k2; cases k2
        | some u =>
          rw [hm0] at k2
          have k2 : ax_le F Y n u (q.2.2.2.2 - 1) 40 v = true := k2
          obtain ⟨O, jo, eo⟩ := (hM0.pl c hm0).2.toInt (hi _ (ax_mg_mem hm0))
          exact ⟨O, eo, ax_le_ok hY hF (jo.mono hp) j k2⟩
    · exact ax_tp_ok hp hM0 hi hY hF hM h2 q hq
theorem ax_ta1_ok {fn a0 : Nat} {M0 : ax_M} {ao : ax_O} : ∀ {ts : List ax_T}, (List.rec false (fun t _ ih => sx_if (ax_t1 fn a0 M0 ao t) true ih) ts : Bool) = true → ∃ t ∈ ts, ax_t1 fn a0 M0 ao t = true
  | [], h => by cases h
  | t :: ts, h => by
    have h : sx_if (ax_t1 fn a0 M0 ao t) true (List.rec false (fun t _ ih => sx_if (ax_t1 fn a0 M0 ao t) true ih) ts) = true := h
    rcases ax_or h with k | k
    · exact ⟨t, List.mem_cons_self, k⟩
    · obtain ⟨t', h3, h4⟩ := ax_ta1_ok k
      exact ⟨t', List.mem_cons_of_mem _ h3, h4⟩
theorem ax_ta_ok {fn a0 : Nat} {M0 : ax_M} {ts : List ax_T} {ao : ax_O} : ∀ {os : List ax_O}, ax_ta fn a0 M0 ts os = true → ao ∈ os → ∃ t ∈ ts, ax_t1 fn a0 M0 ao t = true
  | [], _, hm => by cases hm
  | o :: os, h, hm => by
    have h : sx_and (List.rec false (fun t _ ih => sx_if (ax_t1 fn a0 M0 o t) true ih) ts) (ax_ta fn a0 M0 ts os) = true := h
    obtain ⟨h1, h2⟩ := sx_and_ok h
    rcases List.mem_cons.mp hm with rfl | hm
    · exact ax_ta1_ok h1
    · exact ax_ta_ok h2 hm
theorem ax_chk_ok {N : Nat} {sy : sx_Y} {g : ax_G} {c : ax_C} {en fuel : Nat} (hN : N < 2147483648) (hS : ∀ i, i < N → ∃ P e, sy[i]? = some e ∧ e.1 = sx_b P ∧ e.2.1 = sx_b P) (hV : ax_Gv N sy g) (hmd : g.1 = c.2.2.2.2.1) (hnv : g.2.2.2.2.2.1 = 0) (hlm : g.2.2.2.2.2.2.1 = 1) (h : ax_chk g c en fuel = true) : ax_Valid N sy c := by
  intro D cav hh cs ss Lj hD hA hP hs r1 r2 hx
  unfold ax_chk at h
  generalize hr : ax_sa c.2.2.1 [] 0 [] _ = res at h
  cases res with
  | none => cases h
  | some outs0 =>
    obtain ⟨ρ1, av, Y1, n1, k1, -, k3, k4⟩ := ax_sa_ok (cacc := []) hr (show ax_Yk [] [] 0 from ⟨rfl, rfl, fun k r e hk => by cases hk⟩) ax_Ls.nil hA
    have k4 : ax_Ls ρ1 av cav := k4
    let W : ax_W := (N, sy, hh, g.1, cs, ss, 1, 0)
    obtain ⟨ρ2, M0, Y2, n2, m1, m2, m3, m4, m5⟩ := ax_sp_ok (W := W) (hh := hh) k1 k3 (fun m hm => by cases hm) (fun m hm => by cases hm) hP
    rw [ax_mtK_eq] at m1
    obtain ⟨L, hL, h1⟩ := ax_opt_h m1
    obtain ⟨cL, x1, x2⟩ := ax_xp_ok hL (k4.mono' m2)
    have x1 : sx_xp cav (sx_im (sx_mt c.1).2) = some cL := x1
    rw [hx] at x1
    cases x1
    have fin : ∀ Y3, ax_Yk ρ2 Y3 n2 → ∀ o3, (Option.rec none (fun os => sx_fo (sx_ln av 0) (fun a0 => sx_if (ax_ta c.2.2.2.2.2.1 a0 M0 c.2.2.2.2.2.2 os) (some []) none)) (ax_run g fuel c.2.1 c.1 (sx_mt c.1).1 [] false 0 L [] M0 [] Y3 n2 0) : ax_R) = some o3 → ∃ co, (∃ f0, ∀ f, f0 ≤ f → sx_run N f D c.1 (sx_mt c.1).1 [] false 0 Lj [] hh 160 sy cs ss = some [co]) ∧ co.2.2.2.1 = 160 ∧ co.2.2.2.2.1 = sy ∧ ∃ t ∈ c.2.2.2.2.2.2, ax_Eq c.2.2.2.2.1 c.2.2.2.2.2.1 cav hh cs ss t co := by
      intro Y3 hY3 o3 h3
      obtain ⟨os, hos, h4⟩ := ax_opt_h h3
      rw [sx_fo_eq] at h4
      obtain ⟨hta, -⟩ := ax_if0 h4
      have hG : ax_Gk W g := ⟨rfl, hnv, hlm⟩
      have wk : ax_Wk W := ⟨hN, hS, by show cs + 1 ≤ 600002; omega, by show ss + 6 * 1 ≤ 7302232; omega⟩
      have X : ax_X W ρ2 M0 [] Y3 n2 0 hh cs ss := ⟨hY3, (fun f hf => by cases hf), m4, hs, ax_Fr_refl _ _, (fun q => by cases q), Nat.le_refl _, Nat.le_refl _, Nat.le_add_right _ _, Nat.le_add_right _ _⟩
      have hPq : ax_Pq W ρ2 os (fun co => co.2.2.2.1 = 160 ∧ co.2.2.2.2.1 = sy ∧ ∃ t ∈ c.2.2.2.2.2.2, ax_Eq c.2.2.2.2.1 c.2.2.2.2.2.1 cav hh cs ss t co) := by
        intro ao hao ρ3 co hp hO
        obtain ⟨t, ht, h5⟩ := ax_ta_ok hta hao
        obtain ⟨kd, v, aM, aF, aY, an, ath⟩ := ao
        obtain ⟨O1, O2, O3, O4, OX⟩ := hO
        refine ⟨O3, O4, t, ht, ?_⟩
        have O1 : co.1 = kd := O1
        have O2 : kd = 1 → ax_V ρ3 v co.2.1 := O2
        have OX : ax_X W ρ3 aM aF aY an ath co.2.2.1 co.2.2.2.2.2.1 co.2.2.2.2.2.2 := OX
        have h5 : sx_and (sx_and (Nat.beq kd (Nat.mod t.1 16)) (sx_if (Nat.beq t.2.1 0) true (Nat.beq kd 1))) (sx_and (Nat.ble ath (Nat.div t.1 16)) (sx_and (sx_if (Nat.beq t.2.1 1) (sx_and (ax_in aY an v t.2.2.1 t.2.2.2.1) (sx_if (Nat.beq c.2.2.2.2.2.1 1) (ax_nm aY an (sx_ln av 0) (fun a0 => ax_nm aY an v (fun v => sx_and (Nat.beq (sx_tg a0) 0) (Nat.beq v (Nat.mul 8 (ax_pc (sx_pl a0))))))) true)) (sx_if (Nat.beq t.2.1 2) (ax_lg v) true)) (ax_tp M0 aM aF aY an t.2.2.2.2))) = true := h5
        obtain ⟨a1, h5⟩ := sx_and_ok h5
        obtain ⟨a1, a2⟩ := sx_and_ok a1
        obtain ⟨a3, h5⟩ := sx_and_ok h5
        obtain ⟨a4, a5⟩ := sx_and_ok h5
        have a1 : kd = t.1 % 16 := sx_beq a1
        have a3 : ath ≤ t.1 / 16 := sx_ble a3
        have q1 : co.2.2.2.2.2.1 ≤ cs + ath := OX.r1
        have q2 : co.2.2.2.2.2.2 ≤ ss + 6 * ath := OX.r2
        have q3 : co.2.2.2.2.2.1 ≤ cs + 1 := OX.r3
        have q4 : co.2.2.2.2.2.2 ≤ ss + 6 * 1 := OX.r4
        refine ⟨by rw [O1, a1], fun e => ?_, fun e => ?_, by omega, by omega, q3, q4, OX.hs, by rw [← hmd]; exact OX.fr, ax_tp_ok hp m4 m5 OX.yk OX.fk OX.mm a5⟩
        · rw [sx_beq_e (by omega), sx_if_f] at a2
          have hv := O2 (sx_beq a2)
          rw [sx_beq_t e, sx_if_t] at a4
          obtain ⟨b1, b2⟩ := sx_and_ok a4
          obtain ⟨P, j, ev⟩ := hv.toInt (ax_in_tag b1)
          have b := ax_in_ok b1 OX.yk j
          refine ⟨P, ev, b.1, b.2, fun hf => ?_⟩
          rw [sx_beq_t hf, sx_if_t] at b2
          have ha := ((k4.mono' m2).mono' hp).ln 0
          by_cases ta : sx_ln av 0 % 8 ≤ 1
          · obtain ⟨A, ja, ea⟩ := ha.toInt ta
            obtain ⟨a', g1, ja'⟩ := ax_nm_ok (K := fun a0 => ax_nm aY an v (fun v => sx_and (Nat.beq (sx_tg a0) 0) (Nat.beq v (Nat.mul 8 (ax_pc (sx_pl a0)))))) OX.yk ja
            rw [g1] at b2
            obtain ⟨v', g2, jv'⟩ := ax_nm_ok (K := fun v => sx_and (Nat.beq (sx_tg a') 0) (Nat.beq v (Nat.mul 8 (ax_pc (sx_pl a'))))) OX.yk j
            rw [g2] at b2
            obtain ⟨b3, b4⟩ := sx_and_ok b2
            have b3 : a' % 8 = 0 := sx_beq b3
            have b4 : v' = 8 * ax_pc (sx_pl a') := sx_beq b4
            have e1 := (ja'.i0 b3).1
            rw [e1, ax_pl_i] at b4
            have e2 := (jv'.i0 (by omega)).1
            refine ⟨A, ea, ?_⟩
            rw [b4, ax_i_eq] at e2
            omega
          · rw [ax_nm_ne (by omega)] at b2
            obtain ⟨v', g2, jv'⟩ := ax_nm_ok (K := fun v => sx_and (Nat.beq (sx_tg (sx_ln av 0)) 0) (Nat.beq v (Nat.mul 8 (ax_pc (sx_pl (sx_ln av 0)))))) OX.yk j
            rw [g2] at b2
            obtain ⟨b3, -⟩ := sx_and_ok b2
            have b3 : sx_ln av 0 % 8 = 0 := sx_beq b3
            omega
        · rw [sx_beq_e (by omega), sx_if_f] at a2
          have hv := O2 (sx_beq a2)
          rw [sx_beq_e (by omega), sx_if_f, sx_beq_t e, sx_if_t] at a4
          exact hv.lg a4
      obtain ⟨co, ev, w1, w2, t, w3, w4⟩ := ax_run_ok hG hV wk fuel c.2.1 c.1 _ [] false 0 L [] M0 [] Y3 n2 0 os hos D ρ2 Lj [] hh cs ss _ hD X x2 ax_Ls.nil hPq (fun e he => by cases he)
      exact ⟨co, ev, w1, w2, t, w3, w4⟩
    rcases ax_if h1 with ⟨-, h2⟩ | ⟨-, h2⟩
    · exact fin Y2 m3 _ h2
    · rw [sx_fo_eq] at h2
      obtain ⟨P, jp, -⟩ := ((k4.mono' m2).ln (Nat.pred en)).toInt (ax_rg_tag h2)
      obtain ⟨Y3, o3, h3, -, h4⟩ := ax_en_ok h2 m3 jp
      exact fin Y3 h4 _ h3
end AXChk
end
section
/-! fx: what a run does, with the cells as a function -/
def fI (z : Int) : Nat := 8 * (z % 4294967296).toNat
theorem fI_eq (z : Int) : fI z = sx_i (Int32.ofInt z) := by
  show 8 * (z % 4294967296).toNat = 8 * (BitVec.ofInt 32 z).toNat
  rw [BitVec.toNat_ofInt]
  rfl
def fR (z : Int) : Prop := -2147483648 ≤ z ∧ z < 2147483648
theorem fI_tg (z : Int) : sx_tg (fI z) = 0 := by rw [fI_eq]; exact ax_tg_i _
theorem fI_t8 (z : Int) : fI z % 8 = 0 := fI_tg z
theorem fI_lt (z : Int) : fI z < 34359738368 := by unfold fI; omega
theorem fI_b {z : Int} (h : fR z) : (sx_b (Int32.ofInt z) : Int) = z + 2147483648 := by
  obtain ⟨h1, h2⟩ := h
  unfold sx_b
  rw [Int32.toInt_ofInt_of_le (by omega) (by omega)]
  omega
theorem fI_n {z : Int} (h0 : 0 ≤ z) (h1 : z < 4294967296) : (Int32.ofInt z).toBitVec.toNat = z.toNat := by
  show (BitVec.ofInt 32 z).toNat = _
  rw [BitVec.toNat_ofInt]
  show (z % 4294967296).toNat = _
  rw [Int.emod_eq_of_lt h0 h1]
/-- the int of a number of 32 bits -/
def fD (v : Nat) : Int := if v / 8 < 2147483648 then (v / 8 : Nat) else ((v / 8 : Nat) : Int) - 4294967296
theorem fD_ok (P : Int32) : fI (fD (sx_i P)) = sx_i P ∧ fR (fD (sx_i P)) := by
  have l := P.toBitVec.isLt
  have e : sx_i P / 8 = P.toBitVec.toNat := by rw [ax_i_eq]; omega
  unfold fD
  rw [e]
  rw [ax_i_eq]
  unfold fI fR
  split <;> omega
theorem fD_b (P : Int32) : fD (sx_i P) = (sx_b P : Int) - 2147483648 := by
  have l := P.toBitVec.isLt
  have e : sx_i P / 8 = P.toBitVec.toNat := by rw [ax_i_eq]; omega
  unfold fD
  rw [e, ax_b_tn]
  split <;> omega
/-! places -/
noncomputable def fInt (c j : Nat) : Bool := if (ax_cl c).1 % 256 = 100 then true else if (ax_cl c).1 % 256 < 100 then (match ax_sg (ax_cl c).2.2 j j with | some s => decide (s.2.1 = 0) || decide (s.2.1 = 4) | none => false) else false
noncomputable def fPtr (c j : Nat) : Nat := match ax_sg (ax_cl c).2.2 (j % (ax_cl c).2.1) (j % (ax_cl c).2.1) with | some s => if s.2.1 = 1 then s.2.2.1 else 0 | none => 0
noncomputable def fEnc (c j : Nat) (z : Int) : Nat := if fInt c j = true then fI z else z.toNat
def HV (h : sx_H) (g : Nat → Nat → Int) : Prop := (∀ c, c < 160 → (sx_rd h c).1 = (ax_cl c).1) ∧ ∀ c j, c < 160 → j < (ax_cl c).1 / 256 → sx_get (sx_rd h c).2 j = fEnc c j (g c j) ∧ (fInt c j = true → fR (g c j)) ∧ (fPtr c j ≠ 0 → sx_get (sx_rd h c).2 j = fPtr c j)
/-- with z at the place j of c -/
def fu (g : Nat → Nat → Int) (c j : Nat) (z : Int) : Nat → Nat → Int := fun c' j' => if c' = c ∧ j' = j then z else g c' j'
theorem fu_eq (g : Nat → Nat → Int) (c j : Nat) (z : Int) : fu g c j z c j = z := if_pos ⟨rfl, rfl⟩
theorem fu_ne {g : Nat → Nat → Int} {c j c' j' : Nat} {z : Int} (h : ¬ (c' = c ∧ j' = j)) : fu g c j z c' j' = g c' j' := if_neg h
theorem fu_nc {g : Nat → Nat → Int} {c j c' j' : Nat} {z : Int} (h : c' ≠ c) : fu g c j z c' j' = g c' j' := if_neg (fun q => h q.1)
theorem fu_nj {g : Nat → Nat → Int} {c j c' j' : Nat} {z : Int} (h : j' ≠ j) : fu g c j z c' j' = g c' j' := if_neg (fun q => h q.2)
/-- the cells of h as a function -/
noncomputable def fG (h : sx_H) (c j : Nat) : Int := if fInt c j = true then fD (sx_get (sx_rd h c).2 j) else (sx_get (sx_rd h c).2 j : Nat)
theorem fInt_kind {c j : Nat} {v : Nat} (hk : ax_Pk c j v) (hi : fInt c j = true) (h1 : (ax_cl c).1 % 256 = 100 → ∀ s, ax_sg (ax_cl c).2.2 (j % (ax_cl c).2.1) (j % (ax_cl c).2.1) = some s → s.2.1 = 0 ∨ s.2.1 = 4) (h2 : (ax_cl c).1 % 256 < 100 → j % (ax_cl c).2.1 = j) : ∃ P, v = sx_i P := by
  obtain ⟨s, e, hs⟩ := hk
  have t : s.2.1 = 0 ∨ s.2.1 = 4 := by
    by_cases q : (ax_cl c).1 % 256 = 100
    · exact h1 q s e
    · unfold fInt at hi
      rw [if_neg q] at hi
      by_cases q2 : (ax_cl c).1 % 256 < 100
      · rw [if_pos q2] at hi
        rw [h2 q2] at e
        rw [e] at hi
        simp only [Bool.or_eq_true, decide_eq_true_eq] at hi
        exact hi
      · rw [if_neg q2] at hi
        cases hi
  rcases hs with ⟨k, P, e, -⟩ | ⟨k, -⟩ | ⟨k, -⟩ | ⟨k, -⟩ | ⟨k, P, e, -⟩
  · exact ⟨P, e⟩
  · omega
  · omega
  · omega
  · exact ⟨P, e⟩

def f_okc (c : Nat) : Bool := if (ax_cl c).1 % 256 = 100 then (ax_cl c).2.2.all (fun s => Nat.beq s.2.1 0 || Nat.beq s.2.1 4) else if (ax_cl c).1 % 256 < 100 then Nat.beq (ax_cl c).2.1 ((ax_cl c).1 / 256) else true
theorem f_okc_all : ∀ c, c < 160 → f_okc c = true := by decide +kernel
theorem HV_of {h : sx_H} (q : ax_Hs h) : HV h (fG h) := by
  refine ⟨q.hd, fun c j hc hj => ?_⟩
  have k := q.pk c j hc hj
  have ok := f_okc_all c hc
  unfold f_okc at ok
  refine ⟨?_, ?_, ?_⟩
  · unfold fEnc fG
    by_cases hi : fInt c j = true
    · rw [if_pos hi, if_pos hi]
      obtain ⟨P, e⟩ := fInt_kind k hi (fun t s e => by
        rw [if_pos t] at ok
        have := List.all_eq_true.mp ok s (ax_sg_mem e)
        simp only [Bool.or_eq_true] at this
        rcases this with t | t
        · exact Or.inl (sx_beq t)
        · exact Or.inr (sx_beq t)) (fun t => by
        rw [if_neg (by omega), if_pos t] at ok
        rw [sx_beq ok]
        exact Nat.mod_eq_of_lt hj)
      rw [e]
      exact (fD_ok P).1.symm
    · rw [if_neg hi, if_neg hi]
      rfl
  · intro hi
    unfold fG
    rw [if_pos hi]
    obtain ⟨P, e⟩ := fInt_kind k hi (fun t s e => by
      rw [if_pos t] at ok
      have := List.all_eq_true.mp ok s (ax_sg_mem e)
      simp only [Bool.or_eq_true] at this
      rcases this with t | t
      · exact Or.inl (sx_beq t)
      · exact Or.inr (sx_beq t)) (fun t => by
      rw [if_neg (by omega), if_pos t] at ok
      rw [sx_beq ok]
      exact Nat.mod_eq_of_lt hj)
    rw [e]
    exact (fD_ok P).2
  · intro hp
    obtain ⟨s, e, hs⟩ := k
    unfold fPtr at hp ⊢
    rw [e] at hp ⊢
    by_cases t : s.2.1 = 1
    · show _ = if s.2.1 = 1 then s.2.2.1 else 0
      rw [if_pos t]
      rcases hs with ⟨k, -⟩ | ⟨k, e, -⟩ | ⟨k, -⟩ | ⟨k, -⟩ | ⟨k, -⟩
      · omega
      · exact e
      · omega
      · omega
      · omega
    · simp only [if_neg t] at hp
      exact absurd rfl hp
/-- a place gets an int -/
theorem HV.put {h : sx_H} {g : Nat → Nat → Int} (q : HV h g) {c j : Nat} {z : Int} (hc : c < 160) (hj : j < (ax_cl c).1 / 256) (hi : fInt c j = true) (hp : fPtr c j = 0) (hz : fR z) : HV (sx_wr h c ((sx_rd h c).1, sx_set (sx_rd h c).2 j (fI z))) (fu g c j z) := by
  refine ⟨fun c' hc' => ?_, fun c' j' hc' hj' => ?_⟩
  · by_cases e : c' = c
    · subst e; rw [sx_rd_wr]; exact q.1 _ hc
    · rw [sx_rd_wr_ne _ _ (by omega) (by omega) e]; exact q.1 _ hc'
  · by_cases e : c' = c
    · subst e
      rw [sx_rd_wr]
      by_cases ej : j' = j
      · subst ej
        rw [sx_get_set (by have := fI_lt z; omega), fu_eq]
        refine ⟨?_, fun _ => hz, fun t => absurd hp t⟩
        unfold fEnc
        rw [if_pos hi]
      · rw [sx_get_set_ne (by have := fI_lt z; omega) ej, fu_nj ej]
        exact q.2 _ _ hc' hj'
    · rw [sx_rd_wr_ne _ _ (by omega) (by omega) e, fu_nc e]
      exact q.2 _ _ hc' hj'
/-- the same with l throws that are caught -/
def fWl (W : ax_W) (l : Nat) : ax_W := (W.1, W.2.1, W.2.2.1, W.2.2.2.1, W.2.2.2.2.1, W.2.2.2.2.2.1, l, W.2.2.2.2.2.2.2)
/-- from a place on, with d calls at most one in the other and r throws: the run ends, and Q holds of how -/
def fx (W : ax_W) (r d mi pc : Nat) (L S : List Nat) (g : Nat → Nat → Int) (Q : Nat → Nat → (Nat → Nat → Int) → Prop) : Prop :=
  ∀ D h cs ss, d ≤ D → HV h g → cs + r ≤ 600002 → ss + 6 * r ≤ 7302232 → cx_G W D mi (sx_mt mi).1 pc L S h cs ss (fun o => o.2.2.2.1 = 160 ∧ o.2.2.2.2.1 = W.sy ∧ ∃ g', HV o.2.2.1 g' ∧ Q o.1 o.2.1 g' ∧ (o.1 ≤ 1 → o.2.2.2.2.2.1 ≤ cs + W.lim ∧ o.2.2.2.2.2.2 ≤ ss + 6 * W.lim) ∧ (1 < o.1 → 1 ≤ r ∧ o.2.2.2.2.2.1 ≤ cs + 1 + W.lim ∧ o.2.2.2.2.2.2 ≤ ss + 6 + 6 * W.lim))
section FX
variable {W : ax_W} {r d mi pc : Nat} {L S : List Nat} {g : Nat → Nat → Int} {Q : Nat → Nat → (Nat → Nat → Int) → Prop}
theorem fx.mono {Q' : Nat → Nat → (Nat → Nat → Int) → Prop} (h : fx W r d mi pc L S g Q) (hq : ∀ k v g', Q k v g' → Q' k v g') : fx W r d mi pc L S g Q' := fun D hh cs ss hd hv h1 h2 => by
  obtain ⟨o, ev, a, b, g', c1, c2, c3⟩ := h D hh cs ss hd hv h1 h2
  exact ⟨o, ev, a, b, g', c1, hq _ _ _ c2, c3⟩
theorem fx.up {r' d' : Nat} (h : fx W r d mi pc L S g Q) (hr : r ≤ r') (hd : d ≤ d') : fx W r' d' mi pc L S g Q := fun D hh cs ss hD hv h1 h2 => by
  obtain ⟨o, ev, a, b, g', c1, c2, c3, c4⟩ := h D hh cs ss (by omega) hv (by omega) (by omega)
  exact ⟨o, ev, a, b, g', c1, c2, c3, fun t => ⟨by have := (c4 t).1; omega, (c4 t).2⟩⟩
/-- what the cells are like may be used -/
theorem fx_rg (h : (∀ c j, c < 160 → j < (ax_cl c).1 / 256 → fInt c j = true → fR (g c j)) → fx W r d mi pc L S g Q) : fx W r d mi pc L S g Q := fun D hh cs ss hD hv => h (fun c j hc hj hi => (hv.2 c j hc hj).2.1 hi) D hh cs ss hD hv
/-- a step that changes no cell -/
theorem fx_s {pc' : Nat} {L' S' : List Nat} (hh : sx_wh (sx_ft (sx_mt mi).1 pc) = 0) (hb : ∀ ih D h cs ss, HV h g → sx_body ih W.N (sx_ft (sx_mt mi).1 pc) D mi (sx_mt mi).1 [] pc L S h 160 W.sy cs ss = ih D mi (sx_mt mi).1 [] false pc' L' S' h 160 W.sy cs ss) (k : fx W r d mi pc' L' S' g Q) : fx W r d mi pc L S g Q :=
  fun D h cs ss hd hv h1 h2 => cx_step rfl hh (k D h cs ss hd hv h1 h2) (fun ih => hb ih D h cs ss hv)
theorem fx_sp {pc' : Nat} {L' S' : List Nat} {c j : Nat} {z : Int} (hc : c < 160) (hj : j < (ax_cl c).1 / 256) (hi : fInt c j = true) (hp : fPtr c j = 0) (hz : fR z) (hh : sx_wh (sx_ft (sx_mt mi).1 pc) = 0) (hb : ∀ ih D h cs ss, HV h g → sx_body ih W.N (sx_ft (sx_mt mi).1 pc) D mi (sx_mt mi).1 [] pc L S h 160 W.sy cs ss = ih D mi (sx_mt mi).1 [] false pc' L' S' (sx_wr h c ((sx_rd h c).1, sx_set (sx_rd h c).2 j (fI z))) 160 W.sy cs ss) (k : fx W r d mi pc' L' S' (fu g c j z) Q) : fx W r d mi pc L S g Q :=
  fun D h cs ss hd hv h1 h2 => cx_step rfl hh (k D _ cs ss hd (hv.put hc hj hi hp hz) h1 h2) (fun ih => hb ih D h cs ss hv)
end FX
end
section
/-! fx: the steps -/
def fw (mi pc : Nat) : Nat := sx_ft (sx_mt mi).1 pc
theorem fcp1 {a : Nat} {t : List Nat} {K : Nat → List Nat → sx_R} : sx_p1 (a :: t) K = K a t := rfl
/-- the word at a place: what it does, its two numbers, its long one -/
def fq (mi pc op : Nat) : Bool := Nat.beq (sx_op (fw mi pc)) op && Nat.beq (sx_wh (fw mi pc)) 0
theorem fq_ok {mi pc op : Nat} (h : fq mi pc op = true) : sx_op (sx_ft (sx_mt mi).1 pc) = op ∧ sx_wh (sx_ft (sx_mt mi).1 pc) = 0 := by
  unfold fq at h
  simp only [Bool.and_eq_true] at h
  exact ⟨sx_beq h.1, sx_beq h.2⟩
theorem f_and {a b : Bool} (h : (a && b) = true) : a = true ∧ b = true := by simpa only [Bool.and_eq_true] using h
section FXB
variable {W : ax_W} {r d mi pc : Nat} {L S : List Nat} {g : Nat → Nat → Int} {Q : Nat → Nat → (Nat → Nat → Int) → Prop}
theorem fx_cv (v pc' : Nat) (q : (fq mi pc 1 && (Nat.beq (sx_wc (fw mi pc)) v && Nat.beq (Nat.add pc (sx_wa (fw mi pc))) pc')) = true) (k : fx W r d mi pc' L (v :: S) g Q) : fx W r d mi pc L S g Q := by
  obtain ⟨q1, q2⟩ := f_and q
  obtain ⟨q2, q3⟩ := f_and q2
  obtain ⟨o1, o2⟩ := fq_ok q1
  refine fx_s o2 (fun ih D h cs ss _ => ?_) k
  rw [cx_b1 o1]
  unfold sx_oConst
  rw [sx_fo_eq, sx_fo_eq, show sx_wc (sx_ft (sx_mt mi).1 pc) = v from sx_beq q2, show Nat.add pc (sx_wa (sx_ft (sx_mt mi).1 pc)) = pc' from sx_beq q3]
theorem fx_ci (z : Int) (pc' : Nat) (q : (fq mi pc 1 && (Nat.beq (sx_wc (fw mi pc)) (fI z) && Nat.beq (Nat.add pc (sx_wa (fw mi pc))) pc')) = true) (k : fx W r d mi pc' L (fI z :: S) g Q) : fx W r d mi pc L S g Q := fx_cv (fI z) pc' q k
theorem fx_cn (z : Int) (pc' : Nat) (q : (fq mi pc 1 && (Nat.beq (sx_wc (fw mi pc)) (fI z) && Nat.beq (Nat.add pc (sx_wa (fw mi pc))) pc')) = true) (k : ∀ v, v = z → fx W r d mi pc' L (fI v :: S) g Q) : fx W r d mi pc L S g Q := fx_cv (fI z) pc' q (k z rfl)
def f_ql (mi pc a t pc' : Nat) : Bool := fq mi pc 2 && (Nat.beq (sx_wa (fw mi pc)) a && (Nat.beq (Nat.div (sx_wb (fw mi pc)) 16) t && Nat.beq (Nat.add pc (Nat.mod (sx_wb (fw mi pc)) 16)) pc'))
theorem fx_l0 {a t v pc' : Nat} (q : f_ql mi pc a t pc' = true) (hl : sx_ln L a = v) (ht : sx_ty t v = true) (k : fx W r d mi pc' L (v :: S) g Q) : fx W r d mi pc L S g Q := by
  obtain ⟨q1, q2⟩ := f_and q
  obtain ⟨q2, q3⟩ := f_and q2
  obtain ⟨q3, q4⟩ := f_and q3
  obtain ⟨o1, o2⟩ := fq_ok q1
  refine fx_s o2 (fun ih D h cs ss _ => ?_) k
  rw [cx_b2 o1]
  unfold sx_oLoad
  rw [sx_fo_eq, show sx_wa (sx_ft (sx_mt mi).1 pc) = a from sx_beq q2, hl, show Nat.div (sx_wb (sx_ft (sx_mt mi).1 pc)) 16 = t from sx_beq q3, ht, sx_if_t, sx_fo_eq, show Nat.add pc (Nat.mod (sx_wb (sx_ft (sx_mt mi).1 pc)) 16) = pc' from sx_beq q4]
theorem f_ty0 (z : Int) : sx_ty 0 (fI z) = true := by
  unfold sx_ty
  rw [sx_beq_t rfl, sx_if_t, fI_tg]; rfl
theorem fx_li (a pc' : Nat) {z : Int} (q : f_ql mi pc a 0 pc' = true) (hl : sx_ln L a = fI z) (k : fx W r d mi pc' L (fI z :: S) g Q) : fx W r d mi pc L S g Q := fx_l0 q hl (f_ty0 z) k
theorem fx_la (a pc' : Nat) {v : Nat} (q : f_ql mi pc a 1 pc' = true) (hl : sx_ln L a = v) (ht : sx_ty 1 v = true) (k : fx W r d mi pc' L (v :: S) g Q) : fx W r d mi pc L S g Q := fx_l0 q hl ht k
def f_qs (mi pc a t pc' : Nat) : Bool := fq mi pc 3 && (Nat.beq (sx_wa (fw mi pc)) a && (Nat.beq (Nat.div (sx_wb (fw mi pc)) 16) t && Nat.beq (Nat.add pc (Nat.mod (sx_wb (fw mi pc)) 16)) pc'))
/-- no long lies below the local a -/
def f_lo (L : List Nat) (a : Nat) : Prop := a = 0 ∨ sx_ln L (a - 1) % 8 ≠ 4
theorem f_lo_ok {a : Nat} (h : f_lo L a) : sx_if (Nat.beq a 0) true (!Nat.beq (sx_tg (sx_ln L (Nat.pred a))) 4) = true := by
  cases c : Nat.beq a 0 with
  | true => rfl
  | false =>
    have c := sx_beq_f c
    rw [sx_if_f, sx_beq_e (show ¬ sx_tg (sx_ln L (Nat.pred a)) = 4 from (h.resolve_left c))]
    rfl
theorem fI_n4 (z : Int) : fI z % 8 ≠ 4 := by have := fI_t8 z; omega
theorem fx_st {a v pc' t : Nat} (q : f_qs mi pc a t pc' = true) (t2 : t ≠ 2) (ht : sx_ty t v = true) (h4 : f_lo L a) (hn : Nat.blt a L.length = true) (k : fx W r d mi pc' (L.set a v) S g Q) : fx W r d mi pc L (v :: S) g Q := by
  obtain ⟨q1, q2⟩ := f_and q
  obtain ⟨q2, q3⟩ := f_and q2
  obtain ⟨q3, q4⟩ := f_and q3
  obtain ⟨o1, o2⟩ := fq_ok q1
  refine fx_s o2 (fun ih D h cs ss _ => ?_) k
  rw [cx_b3 o1]
  unfold sx_oStore
  rw [fcp1, show sx_wa (sx_ft (sx_mt mi).1 pc) = a from sx_beq q2, show Nat.div (sx_wb (sx_ft (sx_mt mi).1 pc)) 16 = t from sx_beq q3, ht, sx_if_t, f_lo_ok h4, sx_if_t, sx_fo_eq, sx_beq_e t2, sx_if_f, hn, sx_if_t, sx_stK_eq, show Nat.add pc (Nat.mod (sx_wb (sx_ft (sx_mt mi).1 pc)) 16) = pc' from sx_beq q4]
theorem fx_si (a pc' : Nat) {z : Int} (q : f_qs mi pc a 0 pc' = true) (h4 : f_lo L a) (hn : Nat.blt a L.length = true) (k : fx W r d mi pc' (L.set a (fI z)) S g Q) : fx W r d mi pc L (fI z :: S) g Q := fx_st q (by decide) (f_ty0 z) h4 hn k
theorem fx_sa (a pc' : Nat) {v : Nat} (q : f_qs mi pc a 1 pc' = true) (ht : sx_ty 1 v = true) (h4 : f_lo L a) (hn : Nat.blt a L.length = true) (k : fx W r d mi pc' (L.set a v) S g Q) : fx W r d mi pc L (v :: S) g Q := fx_st q (by decide) ht h4 hn k
/-! ints -/
noncomputable def fop (o : Nat) (x y : Int) : Int := (sx_bf o (Int32.ofInt x) (Int32.ofInt y)).toInt
theorem fop_i (o : Nat) (x y : Int) : sx_i (sx_bf o (Int32.ofInt x) (Int32.ofInt y)) = fI (fop o x y) := by
  rw [fI_eq]; unfold fop; rw [Int32.ofInt_toInt]
theorem fx_bin (o pc' : Nat) {x y : Int} (q : (fq mi pc 4 && Nat.beq (sx_wa (fw mi pc)) o) = true) (hp : pc + 1 = pc') (hy : 9 ≤ o → ¬ Int32.ofInt y = 0) (k : fx W r d mi pc' L (fI (fop o x y) :: S) g Q) : fx W r d mi pc L (fI y :: fI x :: S) g Q := by
  subst hp
  obtain ⟨q1, q2⟩ := f_and q
  obtain ⟨o1, o2⟩ := fq_ok q1
  refine fx_s o2 (fun ih D h cs ss _ => ?_) k
  rw [cx_b4 o1]
  unfold sx_oBin
  rw [fcp1, fcp1, fI_eq, fI_eq, cx_ii, sx_if_t, cx_bin2 (by rw [show sx_wa (sx_ft (sx_mt mi).1 pc) = o from sx_beq q2]; exact hy), sx_fo_eq, show sx_wa (sx_ft (sx_mt mi).1 pc) = o from sx_beq q2, fop_i]
theorem fI_add (x y : Int) : fI (fop 0 x y) = fI (x + y) := by
  rw [← fop_i, fI_eq, Int32.ofInt_add]; rfl
theorem fI_sub (x y : Int) : fI (fop 1 x y) = fI (x - y) := by
  rw [← fop_i, fI_eq, Int32.ofInt_sub]; rfl
theorem fI_mul (x y : Int) : fI (fop 2 x y) = fI (x * y) := by
  rw [← fop_i, fI_eq, Int32.ofInt_mul]; rfl
theorem fx_add (pc' : Nat) {x y : Int} (q : (fq mi pc 4 && Nat.beq (sx_wa (fw mi pc)) 0) = true) (hp : pc + 1 = pc') (k : fx W r d mi pc' L (fI (x + y) :: S) g Q) : fx W r d mi pc L (fI y :: fI x :: S) g Q := fx_bin 0 pc' q hp (fun h => by omega) (by rw [fI_add]; exact k)
theorem fx_sub (pc' : Nat) {x y : Int} (q : (fq mi pc 4 && Nat.beq (sx_wa (fw mi pc)) 1) = true) (hp : pc + 1 = pc') (k : fx W r d mi pc' L (fI (x - y) :: S) g Q) : fx W r d mi pc L (fI y :: fI x :: S) g Q := fx_bin 1 pc' q hp (fun h => by omega) (by rw [fI_sub]; exact k)
theorem fx_mul (pc' : Nat) {x y : Int} (q : (fq mi pc 4 && Nat.beq (sx_wa (fw mi pc)) 2) = true) (hp : pc + 1 = pc') (k : fx W r d mi pc' L (fI (x * y) :: S) g Q) : fx W r d mi pc L (fI y :: fI x :: S) g Q := fx_bin 2 pc' q hp (fun h => by omega) (by rw [fI_mul]; exact k)
theorem fI_of_toBv (P : Int32) : sx_i P = fI P.toInt := by rw [fI_eq, Int32.ofInt_toInt]
theorem fx_inc (a pc' : Nat) (y : Int) {x : Int} (q : (fq mi pc 5 && (Nat.beq (sx_wa (fw mi pc)) a && (Nat.beq (Nat.mul 8 (sx_wc (fw mi pc))) (fI y) && Nat.beq (Nat.add pc 3) pc'))) = true) (hl : sx_ln L a = fI x) (h4 : f_lo L a) (hn : Nat.blt a L.length = true) (k : fx W r d mi pc' (L.set a (fI (x + y))) S g Q) : fx W r d mi pc L S g Q := by
  obtain ⟨q1, q2⟩ := f_and q
  obtain ⟨q2, q3⟩ := f_and q2
  obtain ⟨q3, q4⟩ := f_and q3
  obtain ⟨o1, o2⟩ := fq_ok q1
  refine fx_s o2 (fun ih D h cs ss _ => ?_) k
  rw [cx_b5 o1]
  unfold sx_oIinc
  rw [show sx_wa (sx_ft (sx_mt mi).1 pc) = a from sx_beq q2, f_lo_ok h4, sx_if_t, hn, sx_if_t, sx_fo_eq, hl, fI_tg, show Nat.ble 0 1 = true from rfl, sx_if_t, show Nat.mul 8 (sx_wc (sx_ft (sx_mt mi).1 pc)) = fI y from sx_beq q3, fI_eq, fI_eq, cx_bin (fun h => by omega), sx_stK_eq, sx_fo_eq, show Nat.add pc 3 = pc' from sx_beq q4, fop_i, fI_add]
/-! comparisons -/
def fcb (c : Nat) (x y : Int) : Bool := if c = 0 then decide (x = y) else if c = 1 then !decide (x = y) else if c = 2 then decide (x < y) else if c = 3 then !decide (x < y) else if c = 4 then decide (y < x) else !decide (y < x)
theorem fcb_ok {c : Nat} {x y : Int} (hx : fR x) (hy : fR y) : ax_cb c (sx_b (Int32.ofInt x)) (sx_b (Int32.ofInt y)) = fcb c x y := by
  have ex := fI_b hx
  have ey := fI_b hy
  unfold ax_cb fcb
  have e1 : decide (sx_b (Int32.ofInt x) = sx_b (Int32.ofInt y)) = decide (x = y) := by
    by_cases q : x = y
    · rw [decide_eq_true q, decide_eq_true (by rw [q])]
    · rw [decide_eq_false q, decide_eq_false (by omega)]
  have e2 : decide (sx_b (Int32.ofInt x) < sx_b (Int32.ofInt y)) = decide (x < y) := by
    by_cases q : x < y
    · rw [decide_eq_true q, decide_eq_true (by omega)]
    · rw [decide_eq_false q, decide_eq_false (by omega)]
  have e3 : decide (sx_b (Int32.ofInt y) < sx_b (Int32.ofInt x)) = decide (y < x) := by
    by_cases q : y < x
    · rw [decide_eq_true q, decide_eq_true (by omega)]
    · rw [decide_eq_false q, decide_eq_false (by omega)]
  rw [e1, e2, e3]
theorem fx_icmp {c t pc' : Nat} {x y : Int} (q : (fq mi pc 7 && (Nat.beq (sx_wa (fw mi pc)) c && (Nat.beq (sx_wb (fw mi pc)) t && Nat.beq (Nat.add pc 3) pc'))) = true) (hx : fR x) (hy : fR y) (k1 : fcb c x y = true → fx W r d mi t L S g Q) (k2 : fcb c x y = false → fx W r d mi pc' L S g Q) : fx W r d mi pc L (fI y :: fI x :: S) g Q := by
  obtain ⟨q1, q2⟩ := f_and q
  obtain ⟨q2, q3⟩ := f_and q2
  obtain ⟨q3, q4⟩ := f_and q3
  obtain ⟨o1, o2⟩ := fq_ok q1
  have hb : ∀ (b : Bool), fcb c x y = b → ∀ (ih : sx_ih) D h cs ss, sx_body ih W.N (sx_ft (sx_mt mi).1 pc) D mi (sx_mt mi).1 [] pc L (fI y :: fI x :: S) h 160 W.sy cs ss = ih D mi (sx_mt mi).1 [] false (sx_if b t pc') L S h 160 W.sy cs ss := by
    intro b hb ih D h cs ss
    rw [cx_b7 o1]
    unfold sx_oIcmp
    rw [fcp1, fcp1, fI_eq, fI_eq, cx_ii, sx_if_t, cx_cmp, sx_fo_eq, show sx_wa (sx_ft (sx_mt mi).1 pc) = c from sx_beq q2, show sx_wb (sx_ft (sx_mt mi).1 pc) = t from sx_beq q3, show Nat.add pc 3 = pc' from sx_beq q4, fcb_ok hx hy, hb]
  cases hc : fcb c x y with
  | true => exact fx_s o2 (fun ih D h cs ss _ => hb true hc ih D h cs ss) (k1 hc)
  | false => exact fx_s o2 (fun ih D h cs ss _ => hb false hc ih D h cs ss) (k2 hc)
theorem fx_ifz {c t pc' : Nat} {x : Int} (q : (fq mi pc 6 && (Nat.beq (sx_wa (fw mi pc)) c && (Nat.beq (sx_wb (fw mi pc)) t && Nat.beq (Nat.add pc 3) pc'))) = true) (hx : fR x) (k1 : fcb c x 0 = true → fx W r d mi t L S g Q) (k2 : fcb c x 0 = false → fx W r d mi pc' L S g Q) : fx W r d mi pc L (fI x :: S) g Q := by
  obtain ⟨q1, q2⟩ := f_and q
  obtain ⟨q2, q3⟩ := f_and q2
  obtain ⟨q3, q4⟩ := f_and q3
  obtain ⟨o1, o2⟩ := fq_ok q1
  have hb : ∀ (b : Bool), fcb c x 0 = b → ∀ (ih : sx_ih) D h cs ss, sx_body ih W.N (sx_ft (sx_mt mi).1 pc) D mi (sx_mt mi).1 [] pc L (fI x :: S) h 160 W.sy cs ss = ih D mi (sx_mt mi).1 [] false (sx_if b t pc') L S h 160 W.sy cs ss := by
    intro b hb ih D h cs ss
    rw [cx_b6 o1]
    unfold sx_oIf
    have e0 : (0 : Nat) = sx_i (Int32.ofInt 0) := by decide +kernel
    rw [fcp1, fI_tg, show Nat.ble 0 1 = true from rfl, sx_if_t, fI_eq, e0, cx_cmp, sx_fo_eq, show sx_wa (sx_ft (sx_mt mi).1 pc) = c from sx_beq q2, show sx_wb (sx_ft (sx_mt mi).1 pc) = t from sx_beq q3, show Nat.add pc 3 = pc' from sx_beq q4, fcb_ok hx (by unfold fR; omega), hb]
  cases hc : fcb c x 0 with
  | true => exact fx_s o2 (fun ih D h cs ss _ => hb true hc ih D h cs ss) (k1 hc)
  | false => exact fx_s o2 (fun ih D h cs ss _ => hb false hc ih D h cs ss) (k2 hc)
def f_qc (mi pc op c t pc' : Nat) : Bool := fq mi pc op && (Nat.beq (sx_wa (fw mi pc)) c && (Nat.beq (sx_wb (fw mi pc)) t && Nat.beq (Nat.add pc 3) pc'))
theorem fx_ieq (t pc' : Nat) {x y : Int} (q : f_qc mi pc 7 0 t pc' = true) (hx : fR x) (hy : fR y) (k1 : x = y → fx W r d mi t L S g Q) (k2 : x ≠ y → fx W r d mi pc' L S g Q) : fx W r d mi pc L (fI y :: fI x :: S) g Q := fx_icmp q hx hy (fun h => k1 (of_decide_eq_true h)) (fun h => k2 (of_decide_eq_false h))
theorem fx_ine (t pc' : Nat) {x y : Int} (q : f_qc mi pc 7 1 t pc' = true) (hx : fR x) (hy : fR y) (k1 : x ≠ y → fx W r d mi t L S g Q) (k2 : x = y → fx W r d mi pc' L S g Q) : fx W r d mi pc L (fI y :: fI x :: S) g Q := fx_icmp q hx hy (fun h => k1 (of_decide_eq_false (by simpa [fcb] using h))) (fun h => k2 (of_decide_eq_true (by simpa [fcb] using h)))
theorem fx_ilt (t pc' : Nat) {x y : Int} (q : f_qc mi pc 7 2 t pc' = true) (hx : fR x) (hy : fR y) (k1 : x < y → fx W r d mi t L S g Q) (k2 : y ≤ x → fx W r d mi pc' L S g Q) : fx W r d mi pc L (fI y :: fI x :: S) g Q := fx_icmp q hx hy (fun h => k1 (by simpa [fcb] using h)) (fun h => k2 (by simpa [fcb] using h))
theorem fx_ige (t pc' : Nat) {x y : Int} (q : f_qc mi pc 7 3 t pc' = true) (hx : fR x) (hy : fR y) (k1 : y ≤ x → fx W r d mi t L S g Q) (k2 : x < y → fx W r d mi pc' L S g Q) : fx W r d mi pc L (fI y :: fI x :: S) g Q := fx_icmp q hx hy (fun h => k1 (by simpa [fcb] using h)) (fun h => k2 (by simpa [fcb] using h))
theorem fx_igt (t pc' : Nat) {x y : Int} (q : f_qc mi pc 7 4 t pc' = true) (hx : fR x) (hy : fR y) (k1 : y < x → fx W r d mi t L S g Q) (k2 : x ≤ y → fx W r d mi pc' L S g Q) : fx W r d mi pc L (fI y :: fI x :: S) g Q := fx_icmp q hx hy (fun h => k1 (by simpa [fcb] using h)) (fun h => k2 (by simpa [fcb] using h))
theorem fx_ile (t pc' : Nat) {x y : Int} (q : f_qc mi pc 7 5 t pc' = true) (hx : fR x) (hy : fR y) (k1 : x ≤ y → fx W r d mi t L S g Q) (k2 : y < x → fx W r d mi pc' L S g Q) : fx W r d mi pc L (fI y :: fI x :: S) g Q := fx_icmp q hx hy (fun h => k1 (by simpa [fcb] using h)) (fun h => k2 (by simpa [fcb] using h))
theorem fx_zeq (t pc' : Nat) {x : Int} (q : f_qc mi pc 6 0 t pc' = true) (hx : fR x) (k1 : x = 0 → fx W r d mi t L S g Q) (k2 : x ≠ 0 → fx W r d mi pc' L S g Q) : fx W r d mi pc L (fI x :: S) g Q := fx_ifz q hx (fun h => k1 (of_decide_eq_true h)) (fun h => k2 (of_decide_eq_false h))
theorem fx_zne (t pc' : Nat) {x : Int} (q : f_qc mi pc 6 1 t pc' = true) (hx : fR x) (k1 : x ≠ 0 → fx W r d mi t L S g Q) (k2 : x = 0 → fx W r d mi pc' L S g Q) : fx W r d mi pc L (fI x :: S) g Q := fx_ifz q hx (fun h => k1 (of_decide_eq_false (by simpa [fcb] using h))) (fun h => k2 (of_decide_eq_true (by simpa [fcb] using h)))
theorem fx_zlt (t pc' : Nat) {x : Int} (q : f_qc mi pc 6 2 t pc' = true) (hx : fR x) (k1 : x < 0 → fx W r d mi t L S g Q) (k2 : 0 ≤ x → fx W r d mi pc' L S g Q) : fx W r d mi pc L (fI x :: S) g Q := fx_ifz q hx (fun h => k1 (by simpa [fcb] using h)) (fun h => k2 (by simpa [fcb] using h))
theorem fx_zge (t pc' : Nat) {x : Int} (q : f_qc mi pc 6 3 t pc' = true) (hx : fR x) (k1 : 0 ≤ x → fx W r d mi t L S g Q) (k2 : x < 0 → fx W r d mi pc' L S g Q) : fx W r d mi pc L (fI x :: S) g Q := fx_ifz q hx (fun h => k1 (by simpa [fcb] using h)) (fun h => k2 (by simpa [fcb] using h))
theorem fx_zgt (t pc' : Nat) {x : Int} (q : f_qc mi pc 6 4 t pc' = true) (hx : fR x) (k1 : 0 < x → fx W r d mi t L S g Q) (k2 : x ≤ 0 → fx W r d mi pc' L S g Q) : fx W r d mi pc L (fI x :: S) g Q := fx_ifz q hx (fun h => k1 (by simpa [fcb] using h)) (fun h => k2 (by simpa [fcb] using h))
theorem fx_zle (t pc' : Nat) {x : Int} (q : f_qc mi pc 6 5 t pc' = true) (hx : fR x) (k1 : x ≤ 0 → fx W r d mi t L S g Q) (k2 : 0 < x → fx W r d mi pc' L S g Q) : fx W r d mi pc L (fI x :: S) g Q := fx_ifz q hx (fun h => k1 (by simpa [fcb] using h)) (fun h => k2 (by simpa [fcb] using h))
theorem fx_go (t : Nat) (q : (fq mi pc 8 && Nat.beq (sx_wb (fw mi pc)) t) = true) (k : fx W r d mi t L S g Q) : fx W r d mi pc L S g Q := by
  obtain ⟨q1, q2⟩ := f_and q
  obtain ⟨o1, o2⟩ := fq_ok q1
  refine fx_s o2 (fun ih D h cs ss _ => ?_) k
  rw [cx_b8 o1]
  unfold sx_oGoto
  rw [sx_fo_eq, show sx_wb (sx_ft (sx_mt mi).1 pc) = t from sx_beq q2]
end FXB
end
section
/-! fx: cells, calls, ends -/
theorem f_ref {c n : Nat} (hc : c < n) : sx_and (Nat.beq (sx_tg (8 * c + 2)) 2) (Nat.blt (sx_pl (8 * c + 2)) n) = true := by
  rw [sx_beq_t (show sx_tg (8 * c + 2) = 2 from (show (8 * c + 2) % 8 = 2 by omega)), cx_at]
  exact sx_blt_t (show (8 * c + 2) / 8 < n by omega)
theorem f_plr (c : Nat) : sx_pl (8 * c + 2) = c := show (8 * c + 2) / 8 = c by omega
section FXC
variable {W : ax_W} {r d mi pc : Nat} {L S : List Nat} {g : Nat → Nat → Int} {Q : Nat → Nat → (Nat → Nat → Int) → Prop}
/-- the place of a field -/
def f_qg (mi pc op p c j pc' : Nat) : Bool := fq mi pc op && (Nat.beq p (8 * c + 2) && (Nat.blt c 160 && (Nat.blt j (Nat.div (ax_cl c).1 256) && (Nat.beq (Nat.mod (sx_slot (Nat.mod (ax_cl c).1 256) (sx_wa (fw mi pc))) 32) (Nat.succ j) && Nat.beq (Nat.add pc 3) pc'))))
theorem f_qg_ok {op p c j pc' : Nat} (q : f_qg mi pc op p c j pc' = true) : sx_op (sx_ft (sx_mt mi).1 pc) = op ∧ sx_wh (sx_ft (sx_mt mi).1 pc) = 0 ∧ p = 8 * c + 2 ∧ c < 160 ∧ j < (ax_cl c).1 / 256 ∧ Nat.pred (Nat.mod (sx_slot (Nat.mod (ax_cl c).1 256) (sx_wa (sx_ft (sx_mt mi).1 pc))) 32) = j ∧ ¬ sx_slot (Nat.mod (ax_cl c).1 256) (sx_wa (sx_ft (sx_mt mi).1 pc)) = 0 ∧ Nat.add pc 3 = pc' := by
  obtain ⟨q1, q2⟩ := f_and q
  obtain ⟨q2, q3⟩ := f_and q2
  obtain ⟨q3, q4⟩ := f_and q3
  obtain ⟨q4, q5⟩ := f_and q4
  obtain ⟨q5, q6⟩ := f_and q5
  obtain ⟨o1, o2⟩ := fq_ok q1
  have e : Nat.mod (sx_slot (Nat.mod (ax_cl c).1 256) (sx_wa (sx_ft (sx_mt mi).1 pc))) 32 = Nat.succ j := sx_beq q5
  refine ⟨o1, o2, sx_beq q2, sx_blt q3, sx_blt q4, by rw [e]; rfl, fun h => ?_, sx_beq q6⟩
  rw [h] at e
  cases e
theorem f_get {op p c j pc' : Nat} (q : f_qg mi pc 9 p c j pc' = true) (ih : sx_ih) (D : Nat) (h : sx_H) (cs ss : Nat) (hv : HV h g) : sx_body ih W.N (sx_ft (sx_mt mi).1 pc) D mi (sx_mt mi).1 [] pc L (p :: S) h 160 W.sy cs ss = ih D mi (sx_mt mi).1 [] false pc' L (sx_get (sx_rd h c).2 j :: S) h 160 W.sy cs ss := by
  obtain ⟨o1, o2, rfl, hc, hj, e1, e2, e3⟩ := f_qg_ok q
  rw [cx_b9 o1]
  unfold sx_oGet
  rw [fcp1, f_ref hc, sx_if_t, sx_rdK_eq, f_plr, hv.1 c hc, sx_fo_eq, sx_beq_e e2, sx_if_f, sx_fo_eq, e1, sx_fo_eq, e3]
theorem fx_gi (p c j pc' : Nat) (q : (f_qg mi pc 9 p c j pc' && fInt c j) = true) (k : fx W r d mi pc' L (fI (g c j) :: S) g Q) : fx W r d mi pc L (p :: S) g Q := by
  obtain ⟨q1, q2⟩ := f_and q
  obtain ⟨o1, o2, -, hc, hj, e1, e2, e3⟩ := f_qg_ok q1
  refine fx_s o2 (fun ih D h cs ss hv => ?_) k
  rw [f_get (op := 9) q1 ih D h cs ss hv, (hv.2 c j hc hj).1]
  unfold fEnc
  rw [if_pos q2]
theorem fx_gp (p c j v pc' : Nat) (q : (f_qg mi pc 9 p c j pc' && (Nat.beq (fPtr c j) v && Nat.blt 0 v)) = true) (k : fx W r d mi pc' L (v :: S) g Q) : fx W r d mi pc L (p :: S) g Q := by
  obtain ⟨q1, q2⟩ := f_and q
  obtain ⟨q2, q3⟩ := f_and q2
  obtain ⟨o1, o2, -, hc, hj, e1, e2, e3⟩ := f_qg_ok q1
  have q2 : fPtr c j = v := sx_beq q2
  have q3 : 0 < v := sx_blt q3
  refine fx_s o2 (fun ih D h cs ss hv => ?_) k
  rw [f_get (op := 9) q1 ih D h cs ss hv, (hv.2 c j hc hj).2.2 (by omega), q2]
theorem f_put {p c j pc' : Nat} {z : Int} (q : f_qg mi pc 10 p c j pc' = true) (hk : sx_if (Nat.beq (Nat.div (sx_slot (Nat.mod (ax_cl c).1 256) (sx_wa (fw mi pc))) 32) 0) (Nat.ble (sx_tg (fI z)) 1) (sx_if (Nat.beq (Nat.div (sx_slot (Nat.mod (ax_cl c).1 256) (sx_wa (fw mi pc))) 32) 1) (sx_and (Nat.beq (sx_tg (fI z)) 0) (Nat.ble (sx_pl (fI z)) 1)) (Nat.beq (sx_tg (fI z)) 2)) = true) (ih : sx_ih) (D : Nat) (h : sx_H) (cs ss : Nat) (hv : HV h g) : sx_body ih W.N (sx_ft (sx_mt mi).1 pc) D mi (sx_mt mi).1 [] pc L (fI z :: p :: S) h 160 W.sy cs ss = ih D mi (sx_mt mi).1 [] false pc' L S (sx_wr h c ((sx_rd h c).1, sx_set (sx_rd h c).2 j (fI z))) 160 W.sy cs ss := by
  obtain ⟨o1, o2, rfl, hc, hj, e1, e2, e3⟩ := f_qg_ok q
  rw [cx_b10 o1]
  unfold sx_oPut
  rw [fcp1, fcp1, f_ref hc, sx_if_t, sx_rdK_eq, f_plr, hv.1 c hc, sx_fo_eq, sx_beq_e e2, sx_if_f]
  have hk : sx_if (Nat.beq (Nat.div (sx_slot (Nat.mod (ax_cl c).1 256) (sx_wa (sx_ft (sx_mt mi).1 pc))) 32) 0) (Nat.ble (sx_tg (fI z)) 1) (sx_if (Nat.beq (Nat.div (sx_slot (Nat.mod (ax_cl c).1 256) (sx_wa (sx_ft (sx_mt mi).1 pc))) 32) 1) (sx_and (Nat.beq (sx_tg (fI z)) 0) (Nat.ble (sx_pl (fI z)) 1)) (Nat.beq (sx_tg (fI z)) 2)) = true := hk
  rw [hk, sx_if_t, sx_blt_t (show fI z < 4722366482869645213696 by have := fI_lt z; omega), sx_if_t, sx_fo_eq, e1, sx_wrK_eq, sx_fo_eq, e3]
theorem fx_pi (p c j pc' : Nat) {z : Int} (q : (f_qg mi pc 10 p c j pc' && (fInt c j && (Nat.beq (fPtr c j) 0 && Nat.beq (Nat.div (sx_slot (Nat.mod (ax_cl c).1 256) (sx_wa (fw mi pc))) 32) 0))) = true) (hz : fR z) (k : fx W r d mi pc' L S (fu g c j z) Q) : fx W r d mi pc L (fI z :: p :: S) g Q := by
  obtain ⟨q1, q2⟩ := f_and q
  obtain ⟨q2, q3⟩ := f_and q2
  obtain ⟨q3, q4⟩ := f_and q3
  obtain ⟨o1, o2, -, hc, hj, e1, e2, e3⟩ := f_qg_ok q1
  exact fx_sp hc hj q2 (sx_beq q3) hz o2 (fun ih D h cs ss hv => f_put q1 (by rw [q4, sx_if_t, fI_tg]; rfl) ih D h cs ss hv) k
theorem fx_pb (p c j pc' : Nat) {z : Int} (q : (f_qg mi pc 10 p c j pc' && (fInt c j && (Nat.beq (fPtr c j) 0 && Nat.beq (Nat.div (sx_slot (Nat.mod (ax_cl c).1 256) (sx_wa (fw mi pc))) 32) 1))) = true) (hz : z = 0 ∨ z = 1) (k : fx W r d mi pc' L S (fu g c j z) Q) : fx W r d mi pc L (fI z :: p :: S) g Q := by
  obtain ⟨q1, q2⟩ := f_and q
  obtain ⟨q2, q3⟩ := f_and q2
  obtain ⟨q3, q4⟩ := f_and q3
  obtain ⟨o1, o2, -, hc, hj, e1, e2, e3⟩ := f_qg_ok q1
  have q4' := sx_beq q4
  refine fx_sp hc hj q2 (sx_beq q3) (by unfold fR; omega) o2 (fun ih D h cs ss hv => f_put q1 ?_ ih D h cs ss hv) k
  rw [q4', sx_beq_e (by decide), sx_if_f, sx_beq_t rfl, sx_if_t]
  rcases hz with rfl | rfl <;> decide +kernel
/-! arrays -/
theorem f_okp {c j : Nat} (hc : c < 160) (ha : (ax_cl c).1 % 256 = 100) : fInt c j = true ∧ fPtr c j = 0 := by
  refine ⟨by unfold fInt; rw [if_pos ha], ?_⟩
  have ok := f_okc_all c hc
  unfold f_okc at ok
  rw [if_pos ha] at ok
  unfold fPtr
  cases e : ax_sg (ax_cl c).2.2 (j % (ax_cl c).2.1) (j % (ax_cl c).2.1) with
  | none => rfl
  | some s =>
    have := List.all_eq_true.mp ok s (ax_sg_mem e)
    simp only [Bool.or_eq_true] at this
    show (if s.2.1 = 1 then s.2.2.1 else 0) = 0
    rw [if_neg]
    rcases this with t | t
    · have := sx_beq t; omega
    · have := sx_beq t; omega
def f_qa (mi pc op p c len : Nat) : Bool := fq mi pc op && (Nat.beq p (8 * c + 2) && (Nat.blt c 160 && (Nat.beq (Nat.mod (ax_cl c).1 256) 100 && Nat.beq (Nat.div (ax_cl c).1 256) len)))
theorem f_qa_ok {op p c len : Nat} (q : f_qa mi pc op p c len = true) : sx_op (sx_ft (sx_mt mi).1 pc) = op ∧ sx_wh (sx_ft (sx_mt mi).1 pc) = 0 ∧ p = 8 * c + 2 ∧ c < 160 ∧ (ax_cl c).1 % 256 = 100 ∧ (ax_cl c).1 / 256 = len := by
  obtain ⟨q1, q2⟩ := f_and q
  obtain ⟨q2, q3⟩ := f_and q2
  obtain ⟨q3, q4⟩ := f_and q3
  obtain ⟨q4, q5⟩ := f_and q4
  obtain ⟨o1, o2⟩ := fq_ok q1
  exact ⟨o1, o2, sx_beq q2, sx_blt q3, sx_beq q4, sx_beq q5⟩
theorem fx_al (p c len pc' : Nat) {i : Int} (q : f_qa mi pc 11 p c len = true) (hp : pc + 1 = pc') (h0 : 0 ≤ i) (h1 : i < len) (hl : Nat.ble len 2147483648 = true) (k : fx W r d mi pc' L (fI (g c i.toNat) :: S) g Q) : fx W r d mi pc L (fI i :: p :: S) g Q := by
  subst hp
  obtain ⟨o1, o2, rfl, hc, ha, e⟩ := f_qa_ok q
  have hl := sx_ble hl
  refine fx_s o2 (fun ih D h cs ss hv => ?_) k
  rw [cx_b11 o1]
  unfold sx_oIald
  rw [fcp1, fcp1, sx_beq_e (show ¬ 8 * c + 2 = 13 by omega), sx_if_f]
  unfold sx_oAld
  rw [fcp1, fcp1, f_ref hc, sx_if_t, fI_eq, cx_ix, sx_rdK_eq, f_plr, hv.1 c hc, sx_beq_t (show Nat.mod (ax_cl c).1 256 = 100 from ha), cx_at, fI_n h0 (by omega), sx_blt_t (show i.toNat < Nat.div (ax_cl c).1 256 by show i.toNat < (ax_cl c).1 / 256; omega), sx_if_t, sx_fo_eq, sx_fo_eq, sx_beq_t rfl, sx_if_t, (hv.2 c i.toNat hc (by omega)).1]
  unfold fEnc
  rw [if_pos (f_okp hc ha).1]
theorem fx_as (p c len pc' : Nat) {i z : Int} (q : f_qa mi pc 12 p c len = true) (hp : pc + 1 = pc') (h0 : 0 ≤ i) (h1 : i < len) (hl : Nat.ble len 2147483648 = true) (hz : fR z) (k : fx W r d mi pc' L S (fu g c i.toNat z) Q) : fx W r d mi pc L (fI z :: fI i :: p :: S) g Q := by
  subst hp
  obtain ⟨o1, o2, rfl, hc, ha, e⟩ := f_qa_ok q
  have hl := sx_ble hl
  refine fx_sp hc (show i.toNat < _ by omega) (f_okp hc ha).1 (f_okp hc ha).2 hz o2 (fun ih D h cs ss hv => ?_) k
  rw [cx_b12 o1]
  unfold sx_oAst
  rw [fcp1, fcp1, fcp1, f_ref hc, sx_if_t, fI_eq i, cx_ix, sx_rdK_eq, f_plr, hv.1 c hc, sx_beq_t (show Nat.mod (ax_cl c).1 256 = 100 from ha), cx_at, fI_n h0 (by omega), sx_blt_t (show i.toNat < Nat.div (ax_cl c).1 256 by show i.toNat < (ax_cl c).1 / 256; omega), sx_if_t, sx_beq_t rfl, sx_if_t, fI_tg, show Nat.ble 0 1 = true from rfl, sx_if_t, sx_blt_t (show fI z < 4722366482869645213696 by have := fI_lt z; omega), sx_if_t, sx_fo_eq, sx_beq_e (by decide), sx_if_f, sx_wrK_eq, sx_fo_eq]
/-! ends -/
theorem fx_ret {z : Int} (q : (fq mi pc 26 && Nat.beq (sx_wa (fw mi pc)) 0) = true) (k : Q 1 (fI z) g) : fx W r d mi pc L [fI z] g Q := fun D h cs ss hd hv h1 h2 => by
  obtain ⟨q1, q2⟩ := f_and q
  obtain ⟨o1, o2⟩ := fq_ok q1
  refine cx_end rfl o2 (o := (1, fI z, h, 160, W.sy, cs, ss)) ⟨rfl, rfl, g, hv, k, fun _ => ⟨Nat.le_add_right _ _, Nat.le_add_right _ _⟩, fun t => absurd t (show ¬ 1 < 1 by decide)⟩ (fun ih => ?_)
  rw [cx_b26 o1]
  unfold sx_oRet
  rw [fcp1, show sx_wa (sx_ft (sx_mt mi).1 pc) = 0 from sx_beq q2, sx_beq_t rfl, sx_if_t, fI_tg]
  rfl
theorem fx_retb {z : Int} (q : (fq mi pc 26 && Nat.beq (sx_wa (fw mi pc)) 1) = true) (hz : z = 0 ∨ z = 1) (k : Q 1 (fI z) g) : fx W r d mi pc L [fI z] g Q := fun D h cs ss hd hv h1 h2 => by
  obtain ⟨q1, q2⟩ := f_and q
  obtain ⟨o1, o2⟩ := fq_ok q1
  refine cx_end rfl o2 (o := (1, fI z, h, 160, W.sy, cs, ss)) ⟨rfl, rfl, g, hv, k, fun _ => ⟨Nat.le_add_right _ _, Nat.le_add_right _ _⟩, fun t => absurd t (show ¬ 1 < 1 by decide)⟩ (fun ih => ?_)
  rw [cx_b26 o1]
  unfold sx_oRet
  rw [fcp1, show sx_wa (sx_ft (sx_mt mi).1 pc) = 1 from sx_beq q2, sx_beq_e (by decide), sx_if_f, sx_beq_t rfl, sx_if_t]
  have e : sx_and (Nat.beq (sx_tg (fI z)) 0) (Nat.ble (sx_pl (fI z)) 1) = true := by rcases hz with rfl | rfl <;> decide +kernel
  rw [e]
  rfl
theorem fx_retc {z : Int} (b : Nat) (q : (fq mi pc 43 && Nat.beq (sx_if (Nat.beq (sx_wa (fw mi pc)) 0) 128 65536) b) = true) (h0 : 0 ≤ z) (hb : z < b) (hb2 : Nat.ble b 65536 = true) (k : Q 1 (fI z) g) : fx W r d mi pc L [fI z] g Q := fun D h cs ss hd hv h1 h2 => by
  obtain ⟨q1, q2⟩ := f_and q
  obtain ⟨o1, o2⟩ := fq_ok q1
  have hb2 := sx_ble hb2
  refine cx_end rfl o2 (o := (1, fI z, h, 160, W.sy, cs, ss)) ⟨rfl, rfl, g, hv, k, fun _ => ⟨Nat.le_add_right _ _, Nat.le_add_right _ _⟩, fun t => absurd t (show ¬ 1 < 1 by decide)⟩ (fun ih => ?_)
  rw [cx_b43 o1]
  unfold sx_oRetN
  rw [fcp1, fI_tg, show sx_if (Nat.beq (sx_wa (sx_ft (sx_mt mi).1 pc)) 0) 128 65536 = b from sx_beq q2, sx_blt_t (show sx_pl (fI z) < b by show fI z / 8 < b; unfold fI; omega)]
  rfl
theorem fx_vret (q : fq mi pc 27 = true) (k : Q 0 0 g) : fx W r d mi pc L [] g Q := fun D h cs ss hd hv h1 h2 => by
  obtain ⟨o1, o2⟩ := fq_ok q
  refine cx_end rfl o2 (o := (0, 0, h, 160, W.sy, cs, ss)) ⟨rfl, rfl, g, hv, k, fun _ => ⟨Nat.le_add_right _ _, Nat.le_add_right _ _⟩, fun t => absurd t (show ¬ 1 < 0 by decide)⟩ (fun ih => ?_)
  rw [cx_b27 o1]
  rfl
theorem fx_throw (E : Nat) (q : (fq mi pc 28 && (Nat.beq (Nat.mod (sx_wb (fw mi pc)) 16) E && Nat.beq (sx_ihd (sx_mt mi).2) 0)) = true) (hS : Nat.ble S.length 40 = true) (hr : 1 ≤ r) (k : Q (2 + E) 0 g) : fx W r d mi pc L S g Q := fun D h cs ss hd hv h1 h2 => by
  obtain ⟨q1, q2⟩ := f_and q
  obtain ⟨q2, q3⟩ := f_and q2
  obtain ⟨o1, o2⟩ := fq_ok q1
  refine cx_end rfl o2 (o := (2 + E, 0, h, 160, W.sy, cs + 1, ss + 6)) ⟨rfl, rfl, g, hv, k, fun t => absurd t (show ¬ 2 + E ≤ 1 by omega), fun t => ⟨hr, Nat.le_add_right _ _, Nat.le_add_right _ _⟩⟩ (fun ih => ?_)
  rw [cx_b28 o1]
  unfold sx_oThrow
  rw [sx_mtK_eq, q3, hS, cx_at, cx_at, sx_blt_t (show cs < 600002 by omega), cx_at, show Nat.ble (Nat.add ss 6) 7302232 = true from Nat.ble_eq.mpr (show ss + 6 ≤ 7302232 by omega), sx_if_t, sx_fo_eq, sx_fo_eq, show Nat.mod (sx_wb (sx_ft (sx_mt mi).1 pc)) 16 = E from sx_beq q2]
  rfl
theorem fx_dup (pc' : Nat) {v : Nat} (q : fq mi pc 29 = true) (hp : pc + 1 = pc') (h4 : v % 8 ≠ 4) (k : fx W r d mi pc' L (v :: v :: S) g Q) : fx W r d mi pc L (v :: S) g Q := by
  subst hp
  obtain ⟨o1, o2⟩ := fq_ok q
  refine fx_s o2 (fun ih D h cs ss _ => ?_) k
  rw [cx_b29 o1]
  unfold sx_oDup
  rw [fcp1, sx_beq_e (show ¬ sx_tg v = 4 from h4), sx_if_f, sx_fo_eq]
theorem fx_dup2 (pc' : Nat) {v u : Nat} (q : fq mi pc 30 = true) (hp : pc + 1 = pc') (h4 : v % 8 ≠ 4) (h4' : u % 8 ≠ 4) (k : fx W r d mi pc' L (v :: u :: v :: u :: S) g Q) : fx W r d mi pc L (v :: u :: S) g Q := by
  subst hp
  obtain ⟨o1, o2⟩ := fq_ok q
  refine fx_s o2 (fun ih D h cs ss _ => ?_) k
  rw [cx_b30 o1]
  unfold sx_oDup2
  rw [fcp1, sx_fo_eq, sx_beq_e (show ¬ sx_tg v = 4 from h4), sx_if_f, fcp1, sx_beq_e (show ¬ sx_tg u = 4 from h4'), sx_if_f]
theorem fx_pop (pc' : Nat) {v : Nat} (q : fq mi pc 31 = true) (hp : pc + 1 = pc') (h4 : v % 8 ≠ 4) (k : fx W r d mi pc' L S g Q) : fx W r d mi pc L (v :: S) g Q := by
  subst hp
  obtain ⟨o1, o2⟩ := fq_ok q
  refine fx_s o2 (fun ih D h cs ss _ => ?_) k
  rw [cx_b31 o1]
  unfold sx_oPop
  rw [fcp1, sx_beq_e (show ¬ sx_tg v = 4 from h4), sx_if_f, sx_fo_eq]
end FXC
end
section
/-! fx: calls -/
/-- what must hold behind a call, of its end -/
def fK (W : ax_W) (r d mi pc : Nat) (L rest : List Nat) (Q : Nat → Nat → (Nat → Nat → Int) → Prop) : Nat → Nat → (Nat → Nat → Int) → Prop := fun k v g' => (k = 0 → fx W r d mi pc L rest g' Q) ∧ (k = 1 → fx W r d mi pc L (v :: rest) g' Q) ∧ (1 < k → Q k 0 g')
section FXD
variable {W : ax_W} {r d mi pc : Nat} {L S rest : List Nat} {g : Nat → Nat → Int} {Q : Nat → Nat → (Nat → Nat → Int) → Prop}
theorem fK0 {v : Nat} (h : fx W r d mi pc L rest g Q) : fK W r d mi pc L rest Q 0 v g := ⟨fun _ => h, fun t => absurd t (by decide), fun t => absurd t (by decide)⟩
theorem fK1 {v : Nat} (h : fx W r d mi pc L (v :: rest) g Q) : fK W r d mi pc L rest Q 1 v g := ⟨fun t => absurd t (by decide), fun _ => h, fun t => absurd t (by decide)⟩
theorem fK2 {k v : Nat} (h : Q (2 + k) 0 g) : fK W r d mi pc L rest Q (2 + k) v g := ⟨fun t => by omega, fun t => by omega, fun _ => h⟩
theorem f_xp : ∀ {av : List Nat} {m : Nat}, (∀ v ∈ av, v % 8 ≠ 4) → av.length ≤ m → sx_xp av m = some (av ++ sx_pd (m - av.length))
  | [], m, _, _ => rfl
  | v :: av, 0, _, h => by cases h
  | v :: av, m + 1, h4, h => by
    have hb : sx_xp (v :: av) (m + 1) = sx_if (Nat.beq (sx_tg v) 4) (Nat.rec none (fun n2 _ => Option.map (fun t => v :: 7 :: t) (sx_xp av n2)) m) (Option.map (fun t => v :: t) (sx_xp av m)) := rfl
    have h : av.length + 1 ≤ m + 1 := h
    rw [hb, sx_beq_e (show ¬ sx_tg v = 4 from h4 v List.mem_cons_self), sx_if_f, f_xp (fun u hu => h4 u (List.mem_cons_of_mem _ hu)) (by omega)]
    show some (v :: (av ++ sx_pd (m - av.length))) = some (v :: av ++ sx_pd (m + 1 - (av.length + 1)))
    rw [show m + 1 - (av.length + 1) = m - av.length by omega]
    rfl
theorem fx_call {mj pc' : Nat} {av Lj : List Nat} {dj : Nat} (hh : sx_wh (sx_ft (sx_mt mi).1 pc) = 0)
    (hb : ∀ (ih : sx_ih) D h cs ss, HV h g → sx_body ih W.N (sx_ft (sx_mt mi).1 pc) D mi (sx_mt mi).1 [] pc L S h 160 W.sy cs ss = sx_call ih D mi (sx_mt mi).1 [] pc L h 160 W.sy cs ss av rest mj)
    (hc : sx_and (Nat.blt 0 (sx_mt mj).1) (Nat.ble (Nat.add (Nat.mul 2 (List.length rest)) (sx_im (sx_mt mj).2)) 89) = true) (hd : dj + 1 ≤ d) (hi : sx_ihd (sx_mt mi).2 = 0) (hp : pc + 3 = pc')
    (hx : sx_xp av (sx_im (sx_mt mj).2) = some Lj) (k : fx (fWl W 0) r dj mj 0 Lj [] g (fK W r d mi pc' L rest Q)) : fx W r d mi pc L S g Q := fun D h cs ss hD hv h1 h2 => by
  obtain ⟨D', rfl⟩ : ∃ D', D = D' + 1 := ⟨D - 1, by omega⟩
  have hb' : ∀ ih : sx_ih, sx_body ih W.N (sx_ft (sx_mt mi).1 pc) (D' + 1) mi (sx_mt mi).1 [] pc L S h 160 W.sy cs ss = Option.rec none (fun outs => sx_cont ih (D' + 1) mi (sx_mt mi).1 [] pc L rest 0 outs) (ih D' mj (sx_mt mj).1 [] false 0 Lj [] h 160 W.sy cs ss) := fun ih => by
    rw [hb ih (D' + 1) h cs ss hv]
    show sx_mtK mj (fun cj fj => sx_mtK mi (fun _ f =>
      sx_if (sx_and (sx_and (Nat.blt 0 cj) (Nat.ble (Nat.add (Nat.mul 2 (List.length rest)) (sx_im fj)) 89)) (sx_and (Nat.ble cs 600002) (Nat.ble ss 7302232)))
        (Option.rec none (fun Lj => Option.rec none (fun outs => sx_cont ih (D' + 1) mi (sx_mt mi).1 [] pc L rest (sx_ihd f) outs)
          (ih D' mj cj [] false 0 Lj [] h 160 W.sy cs ss)) (sx_xp av (sx_im fj))) none)) = _
    rw [sx_mtK_eq, sx_mtK_eq, hc, cx_at, show Nat.ble cs 600002 = true from Nat.ble_eq.mpr (by omega), show Nat.ble ss 7302232 = true from Nat.ble_eq.mpr (by omega), cx_at, sx_if_t, hx, hi]
  refine cx_call rfl hh hb' ?_
  obtain ⟨co, ev, a1, a2, g', hv', kq, b1, b2⟩ := k D' h cs ss (by omega) hv h1 h2
  refine ⟨co, ev, ?_⟩
  obtain ⟨kd, cv, ch, cn, csy, ccs, css⟩ := co
  have a1 : cn = 160 := a1
  have a2 : csy = W.sy := a2
  subst a1 a2
  by_cases c0 : kd = 0
  · subst c0
    obtain ⟨e1, e2⟩ := b1 (Nat.zero_le 1)
    have e1 : ccs ≤ cs + 0 := e1
    have e2 : css ≤ ss + 6 * 0 := e2
    subst hp
    obtain ⟨o, ⟨f0, hf⟩, u1, u2, u3, u4, u5, u6, u7⟩ := kq.1 rfl (D' + 1) ch ccs css hD hv' (by omega) (by omega)
    exact ⟨o, ⟨f0, fun f hle => cx_app1 _ _ (hf f hle)⟩, u1, u2, u3, u4, u5, fun t => by have := u6 t; omega, fun t => by have := u7 t; omega⟩
  · by_cases c1 : kd = 1
    · subst c1
      obtain ⟨e1, e2⟩ := b1 (Nat.le_refl 1)
      have e1 : ccs ≤ cs + 0 := e1
      have e2 : css ≤ ss + 6 * 0 := e2
      subst hp
      obtain ⟨o, ⟨f0, hf⟩, u1, u2, u3, u4, u5, u6, u7⟩ := kq.2.1 rfl (D' + 1) ch ccs css hD hv' (by omega) (by omega)
      exact ⟨o, ⟨f0, fun f hle => cx_app1 _ _ (hf f hle)⟩, u1, u2, u3, u4, u5, fun t => by have := u6 t; omega, fun t => by have := u7 t; omega⟩
    · have c2 : 1 < kd := by omega
      obtain ⟨e0, e1, e2⟩ := b2 c2
      refine ⟨(kd, 0, ch, 160, W.sy, ccs, css), ⟨0, fun f _ => ?_⟩, rfl, rfl, g', hv', kq.2.2 c2, fun t => absurd t (show ¬ kd ≤ 1 by omega), fun _ => ⟨e0, (by have e1 : ccs ≤ cs + 1 + 0 := e1; show ccs ≤ cs + 1 + W.lim; omega), (by have e2 : css ≤ ss + 6 + 6 * 0 := e2; show css ≤ ss + 6 + 6 * W.lim; omega)⟩⟩
      show sx_app (sx_if (Nat.beq kd 0) _ (sx_if (Nat.beq kd 1) _ (sx_thr _ _ _ _ _ _ _ 0 (Nat.sub kd 2) _ _ _ _ _))) (some []) = _
      rw [sx_beq_e c0, sx_if_f, sx_beq_e c1, sx_if_f]
      apply cx_app1
      unfold sx_thr
      rw [sx_beq_t rfl, sx_if_t]
      show some [(2 + (kd - 2), 0, ch, 160, W.sy, ccs, css)] = _
      rw [show 2 + (kd - 2) = kd by omega]
/-- the method called, how many arguments, the locals behind them, of how many calls it needs room for -/
noncomputable def f_qi (mi pc mj n pc' : Nat) (P : List Nat) : Bool := Nat.beq (sx_ia (sx_mt mj).2) n && (Nat.blt 0 (sx_mt mj).1 && (Nat.beq (sx_ihd (sx_mt mi).2) 0 && (Nat.beq (Nat.add pc 3) pc' && (Nat.ble n (sx_im (sx_mt mj).2) && (sx_pd (Nat.sub (sx_im (sx_mt mj).2) n) == P)))))
theorem f_qi_ok {mj n pc' : Nat} {P : List Nat} (q : f_qi mi pc mj n pc' P = true) : sx_ia (sx_mt mj).2 = n ∧ Nat.blt 0 (sx_mt mj).1 = true ∧ sx_ihd (sx_mt mi).2 = 0 ∧ pc + 3 = pc' ∧ n ≤ sx_im (sx_mt mj).2 ∧ sx_pd (sx_im (sx_mt mj).2 - n) = P := by
  obtain ⟨q1, q2⟩ := f_and q
  obtain ⟨q2, q3⟩ := f_and q2
  obtain ⟨q3, q4⟩ := f_and q3
  obtain ⟨q4, q5⟩ := f_and q4
  obtain ⟨q5, q6⟩ := f_and q5
  exact ⟨sx_beq q1, q2, sx_beq q3, sx_beq q4, sx_ble q5, eq_of_beq q6⟩
/-- which method: op 22, 23 (no or a fixed object), 21, 40 (by the object's kind), 39 (of a String) -/
noncomputable def f_qm (mi pc mj op a : Nat) : Bool :=
  if op = 22 then fq mi pc 22 && Nat.beq (sx_wc (fw mi pc)) mj
  else if op = 21 then fq mi pc 21 && (Nat.beq (sx_wc (fw mi pc)) mj && (Nat.beq (sx_tg a) 2 && (Nat.blt (sx_pl a) 160 && Nat.beq (Nat.mod (Nat.shiftRight (sx_wb (fw mi pc)) (Nat.mod (ax_cl (sx_pl a)).1 256)) 2) 1)))
  else if op = 23 then fq mi pc 23 && (Nat.beq (sx_wc (fw mi pc)) mj && (Nat.beq (sx_tg a) 2 && Nat.blt (sx_pl a) 160))
  else if op = 39 then fq mi pc 39 && (Nat.beq (sx_wc (fw mi pc)) mj && sx_isS a)
  else if op = 40 then fq mi pc 40 && (Nat.beq (sx_tg a) 2 && (Nat.blt (sx_pl a) 160 && (if Nat.beq (Nat.mod (Nat.shiftRight (sx_wb (fw mi pc)) (Nat.mod (ax_cl (sx_pl a)).1 256)) 2) 1 then Nat.beq (sx_wc (sx_w1 (fw mi pc))) mj && Nat.beq (Nat.mod (Nat.shiftRight (sx_wb (sx_w1 (fw mi pc))) (Nat.mod (ax_cl (sx_pl a)).1 256)) 2) 1
    else Nat.beq (sx_wc (sx_w2 (fw mi pc))) mj && Nat.beq (Nat.mod (Nat.shiftRight (sx_wb (sx_w2 (fw mi pc))) (Nat.mod (ax_cl (sx_pl a)).1 256)) 2) 1)))
  else false
theorem f_inv {mj n w : Nat} {a : Nat} {av' : List Nat} {vt : Bool} (hn : sx_ia (sx_mt mj).2 = n) (hw : sx_wc w = mj) (hS : ∀ K : List Nat → List Nat → sx_R, sx_tk n S [] K = K (a :: av') rest) (hv : vt = true → sx_tg a = 2 ∧ sx_pl a < 160 ∧ Nat.beq (Nat.mod (Nat.shiftRight (sx_wb w) (Nat.mod (ax_cl (sx_pl a)).1 256)) 2) 1 = true) (ih : sx_ih) (D : Nat) (h : sx_H) (cs ss : Nat) (q : HV h g) : sx_oInv ih w D mi (sx_mt mi).1 [] pc L S h 160 W.sy cs ss vt = sx_call ih D mi (sx_mt mi).1 [] pc L h 160 W.sy cs ss (a :: av') rest mj := by
  unfold sx_oInv
  rw [sx_fo_eq, sx_mtK_eq, hw, hn, hS]
  cases vt with
  | false => rfl
  | true =>
    obtain ⟨h1, h2, h3⟩ := hv rfl
    rw [sx_if_t, fcp1, sx_beq_t h1, cx_at, sx_blt_t h2, sx_if_t, sx_rdK_eq, q.1 _ h2, h3, sx_if_t]
theorem f_qm_ok {mj n op a : Nat} {av' : List Nat} (q : f_qm mi pc mj op a = true) (hn : sx_ia (sx_mt mj).2 = n) (hS : ∀ K : List Nat → List Nat → sx_R, sx_tk n (S) [] K = K (a :: av') rest) (h40 : op = 40 → ∃ t, S = a :: t) : sx_wh (sx_ft (sx_mt mi).1 pc) = 0 ∧ ∀ (ih : sx_ih) D h cs ss, HV h g → sx_body ih W.N (sx_ft (sx_mt mi).1 pc) D mi (sx_mt mi).1 [] pc L S h 160 W.sy cs ss = sx_call ih D mi (sx_mt mi).1 [] pc L h 160 W.sy cs ss (a :: av') rest mj := by
  unfold f_qm at q
  by_cases c : op = 22
  · rw [if_pos c] at q
    obtain ⟨q1, q2⟩ := f_and q
    obtain ⟨o1, o2⟩ := fq_ok q1
    exact ⟨o2, fun ih D h cs ss hv => by rw [cx_b22 o1]; exact f_inv hn (sx_beq q2) hS (fun t => by cases t) ih D h cs ss hv⟩
  · rw [if_neg c] at q
    by_cases c : op = 21
    · rw [if_pos c] at q
      obtain ⟨q1, q2⟩ := f_and q
      obtain ⟨q2, q3⟩ := f_and q2
      obtain ⟨q3, q4⟩ := f_and q3
      obtain ⟨q4, q5⟩ := f_and q4
      obtain ⟨o1, o2⟩ := fq_ok q1
      exact ⟨o2, fun ih D h cs ss hv => by rw [cx_b21 o1]; exact f_inv hn (sx_beq q2) hS (fun t => ⟨sx_beq q3, sx_blt q4, q5⟩) ih D h cs ss hv⟩
    · rw [if_neg c] at q
      by_cases c : op = 23
      · rw [if_pos c] at q
        obtain ⟨q1, q2⟩ := f_and q
        obtain ⟨q2, q3⟩ := f_and q2
        obtain ⟨q3, q4⟩ := f_and q3
        obtain ⟨o1, o2⟩ := fq_ok q1
        refine ⟨o2, fun ih D h cs ss hv => ?_⟩
        rw [cx_b23 o1]
        unfold sx_oInvI
        rw [sx_fo_eq, sx_mtK_eq, show sx_wc (sx_ft (sx_mt mi).1 pc) = mj from sx_beq q2, hn, hS, fcp1, q3, cx_at, q4, sx_if_t]
      · rw [if_neg c] at q
        by_cases c : op = 39
        · rw [if_pos c] at q
          obtain ⟨q1, q2⟩ := f_and q
          obtain ⟨q2, q3⟩ := f_and q2
          obtain ⟨o1, o2⟩ := fq_ok q1
          refine ⟨o2, fun ih D h cs ss hv => ?_⟩
          rw [cx_b39 o1]
          unfold sx_oInvX
          rw [sx_fo_eq, sx_mtK_eq, show sx_wc (sx_ft (sx_mt mi).1 pc) = mj from sx_beq q2, hn, hS, fcp1, q3, sx_if_t]
        · rw [if_neg c] at q
          by_cases c : op = 40
          · rw [if_pos c] at q
            obtain ⟨t, rfl⟩ := h40 c
            obtain ⟨q1, q2⟩ := f_and q
            obtain ⟨q2, q3⟩ := f_and q2
            obtain ⟨q3, q4⟩ := f_and q3
            obtain ⟨o1, o2⟩ := fq_ok q1
            refine ⟨o2, fun ih D h cs ss hv => ?_⟩
            rw [cx_b40 o1]
            unfold sx_oInvW
            rw [fcp1, sx_rdK_eq, hv.1 _ (sx_blt q3)]
            cases e : Nat.beq (Nat.mod (Nat.shiftRight (sx_wb (sx_ft (sx_mt mi).1 pc)) (Nat.mod (ax_cl (sx_pl a)).1 256)) 2) 1 with
            | true =>
              rw [sx_if_t, sx_fo_eq]
              rw [if_pos (show Nat.beq (Nat.mod (Nat.shiftRight (sx_wb (fw mi pc)) (Nat.mod (ax_cl (sx_pl a)).1 256)) 2) 1 = true from e)] at q4
              obtain ⟨q4, q5⟩ := f_and q4
              exact f_inv hn (sx_beq q4) hS (fun t => ⟨sx_beq q2, sx_blt q3, q5⟩) ih D h cs ss hv
            | false =>
              rw [sx_if_f, sx_fo_eq]
              rw [if_neg (show ¬ Nat.beq (Nat.mod (Nat.shiftRight (sx_wb (fw mi pc)) (Nat.mod (ax_cl (sx_pl a)).1 256)) 2) 1 = true from fun t => by rw [show Nat.beq (Nat.mod (Nat.shiftRight (sx_wb (fw mi pc)) (Nat.mod (ax_cl (sx_pl a)).1 256)) 2) 1 = false from e] at t; cases t)] at q4
              obtain ⟨q4, q5⟩ := f_and q4
              exact f_inv hn (sx_beq q4) hS (fun t => ⟨sx_beq q2, sx_blt q3, q5⟩) ih D h cs ss hv
          · rw [if_neg c] at q
            cases q
theorem fx_c (n : Nat) {mj op a pc' dj : Nat} {av' P : List Nat} (q : (f_qm mi pc mj op a && f_qi mi pc mj n pc' P) = true) (hS : ∀ K : List Nat → List Nat → sx_R, sx_tk n S [] K = K (a :: av') rest) (h40 : op = 40 → ∃ t, S = a :: t) (hl : (a :: av').length = n) (h4 : ∀ v ∈ a :: av', v % 8 ≠ 4) (hr : Nat.ble (Nat.add (Nat.mul 2 (List.length rest)) (sx_im (sx_mt mj).2)) 89 = true) (hd : dj + 1 ≤ d) (k : fx (fWl W 0) r dj mj 0 (a :: av' ++ P) [] g (fK W r d mi pc' L rest Q)) : fx W r d mi pc L S g Q := by
  obtain ⟨q1, q2⟩ := f_and q
  obtain ⟨r1, r2, r3, r4, r5, r6⟩ := f_qi_ok q2
  obtain ⟨e1, e2⟩ := f_qm_ok (W := W) (L := L) (g := g) q1 r1 hS h40
  refine fx_call e1 e2 (by rw [r2, cx_at, hr]) hd r3 r4 ?_ k
  rw [f_xp h4 (by rw [hl]; exact r5), hl, r6]
theorem fx_c1 (mj op pc' dj : Nat) (P : List Nat) {a : Nat} (q : (f_qm mi pc mj op a && f_qi mi pc mj 1 pc' P) = true) (h4 : a % 8 ≠ 4) (hr : Nat.ble (Nat.add (Nat.mul 2 (List.length rest)) (sx_im (sx_mt mj).2)) 89 = true) (hd : dj + 1 ≤ d) (k : fx (fWl W 0) r dj mj 0 (a :: P) [] g (fK W r d mi pc' L rest Q)) : fx W r d mi pc L (a :: rest) g Q :=
  fx_c 1 (av' := []) q (fun K => rfl) (fun _ => ⟨_, rfl⟩) rfl (fun v hv => by rcases List.mem_cons.mp hv with rfl | hv; exact h4; cases hv) hr hd k
theorem fx_c2 (mj op pc' dj : Nat) (P : List Nat) {a b : Nat} (q : (f_qm mi pc mj op a && f_qi mi pc mj 2 pc' P) = true) (h40 : op ≠ 40) (h4 : a % 8 ≠ 4) (h4b : b % 8 ≠ 4) (hr : Nat.ble (Nat.add (Nat.mul 2 (List.length rest)) (sx_im (sx_mt mj).2)) 89 = true) (hd : dj + 1 ≤ d) (k : fx (fWl W 0) r dj mj 0 (a :: b :: P) [] g (fK W r d mi pc' L rest Q)) : fx W r d mi pc L (b :: a :: rest) g Q :=
  fx_c 2 (av' := [b]) q (fun K => rfl) (fun t => absurd t h40) rfl (fun v hv => by rcases List.mem_cons.mp hv with rfl | hv; exact h4; rcases List.mem_cons.mp hv with rfl | hv; exact h4b; cases hv) hr hd k
theorem fx_c3 (mj op pc' dj : Nat) (P : List Nat) {a b c : Nat} (q : (f_qm mi pc mj op a && f_qi mi pc mj 3 pc' P) = true) (h40 : op ≠ 40) (h4 : a % 8 ≠ 4) (h4b : b % 8 ≠ 4) (h4c : c % 8 ≠ 4) (hr : Nat.ble (Nat.add (Nat.mul 2 (List.length rest)) (sx_im (sx_mt mj).2)) 89 = true) (hd : dj + 1 ≤ d) (k : fx (fWl W 0) r dj mj 0 (a :: b :: c :: P) [] g (fK W r d mi pc' L rest Q)) : fx W r d mi pc L (c :: b :: a :: rest) g Q :=
  fx_c 3 (av' := [b, c]) q (fun K => rfl) (fun t => absurd t h40) rfl (fun v hv => by rcases List.mem_cons.mp hv with rfl | hv; exact h4; rcases List.mem_cons.mp hv with rfl | hv; exact h4b; rcases List.mem_cons.mp hv with rfl | hv; exact h4c; cases hv) hr hd k
theorem fx_c4 (mj op pc' dj : Nat) (P : List Nat) {a b c e : Nat} (q : (f_qm mi pc mj op a && f_qi mi pc mj 4 pc' P) = true) (h40 : op ≠ 40) (h4 : a % 8 ≠ 4) (h4b : b % 8 ≠ 4) (h4c : c % 8 ≠ 4) (h4e : e % 8 ≠ 4) (hr : Nat.ble (Nat.add (Nat.mul 2 (List.length rest)) (sx_im (sx_mt mj).2)) 89 = true) (hd : dj + 1 ≤ d) (k : fx (fWl W 0) r dj mj 0 (a :: b :: c :: e :: P) [] g (fK W r d mi pc' L rest Q)) : fx W r d mi pc L (e :: c :: b :: a :: rest) g Q :=
  fx_c 4 (av' := [b, c, e]) q (fun K => rfl) (fun t => absurd t h40) rfl (fun v hv => by rcases List.mem_cons.mp hv with rfl | hv; exact h4; rcases List.mem_cons.mp hv with rfl | hv; exact h4b; rcases List.mem_cons.mp hv with rfl | hv; exact h4c; rcases List.mem_cons.mp hv with rfl | hv; exact h4e; cases hv) hr hd k
theorem fx_c5 (mj op pc' dj : Nat) (P : List Nat) {a b c e f : Nat} (q : (f_qm mi pc mj op a && f_qi mi pc mj 5 pc' P) = true) (h40 : op ≠ 40) (h4 : a % 8 ≠ 4) (h4b : b % 8 ≠ 4) (h4c : c % 8 ≠ 4) (h4e : e % 8 ≠ 4) (h4f : f % 8 ≠ 4) (hr : Nat.ble (Nat.add (Nat.mul 2 (List.length rest)) (sx_im (sx_mt mj).2)) 89 = true) (hd : dj + 1 ≤ d) (k : fx (fWl W 0) r dj mj 0 (a :: b :: c :: e :: f :: P) [] g (fK W r d mi pc' L rest Q)) : fx W r d mi pc L (f :: e :: c :: b :: a :: rest) g Q :=
  fx_c 5 (av' := [b, c, e, f]) q (fun K => rfl) (fun t => absurd t h40) rfl (fun v hv => by rcases List.mem_cons.mp hv with rfl | hv; exact h4; rcases List.mem_cons.mp hv with rfl | hv; exact h4b; rcases List.mem_cons.mp hv with rfl | hv; exact h4c; rcases List.mem_cons.mp hv with rfl | hv; exact h4e; rcases List.mem_cons.mp hv with rfl | hv; exact h4f; cases hv) hr hd k
theorem fx_c6 (mj op pc' dj : Nat) (P : List Nat) {a b c e f i : Nat} (q : (f_qm mi pc mj op a && f_qi mi pc mj 6 pc' P) = true) (h40 : op ≠ 40) (h4 : a % 8 ≠ 4) (h4b : b % 8 ≠ 4) (h4c : c % 8 ≠ 4) (h4e : e % 8 ≠ 4) (h4f : f % 8 ≠ 4) (h4i : i % 8 ≠ 4) (hr : Nat.ble (Nat.add (Nat.mul 2 (List.length rest)) (sx_im (sx_mt mj).2)) 89 = true) (hd : dj + 1 ≤ d) (k : fx (fWl W 0) r dj mj 0 (a :: b :: c :: e :: f :: i :: P) [] g (fK W r d mi pc' L rest Q)) : fx W r d mi pc L (i :: f :: e :: c :: b :: a :: rest) g Q :=
  fx_c 6 (av' := [b, c, e, f, i]) q (fun K => rfl) (fun t => absurd t h40) rfl (fun v hv => by rcases List.mem_cons.mp hv with rfl | hv; exact h4; rcases List.mem_cons.mp hv with rfl | hv; exact h4b; rcases List.mem_cons.mp hv with rfl | hv; exact h4c; rcases List.mem_cons.mp hv with rfl | hv; exact h4e; rcases List.mem_cons.mp hv with rfl | hv; exact h4f; rcases List.mem_cons.mp hv with rfl | hv; exact h4i; cases hv) hr hd k
end FXD
end
section
/-! fx: Strings, arrays as a whole -/
section FXE
variable {W : ax_W} {r d mi pc : Nat} {L S : List Nat} {g : Nat → Nat → Int} {Q : Nat → Nat → (Nat → Nat → Int) → Prop}
theorem fx_lds (v pc' : Nat) (q : (fq mi pc 33 && (Nat.blt (sx_wa (fw mi pc)) sx_ns && (Nat.beq (Nat.add pc (sx_wb (fw mi pc))) pc' && Nat.beq (Nat.add (Nat.mul 8 (Nat.add 2 (sx_wa (fw mi pc)))) 5) v))) = true) (k : fx W r d mi pc' L (v :: S) g Q) : fx W r d mi pc L S g Q := by
  obtain ⟨q1, q2⟩ := f_and q
  obtain ⟨q2, q3⟩ := f_and q2
  obtain ⟨q3, q4⟩ := f_and q3
  obtain ⟨o1, o2⟩ := fq_ok q1
  refine fx_s o2 (fun ih D h cs ss _ => ?_) k
  rw [cx_b33 o1]
  unfold sx_oLdcS
  rw [show Nat.blt (sx_wa (sx_ft (sx_mt mi).1 pc)) sx_ns = true from q2, sx_if_t, sx_fo_eq, sx_fo_eq, show Nat.add pc (sx_wb (sx_ft (sx_mt mi).1 pc)) = pc' from sx_beq q3, show Nat.add (Nat.mul 8 (Nat.add 2 (sx_wa (sx_ft (sx_mt mi).1 pc)))) 5 = v from sx_beq q4]
theorem fx_gs (v pc' : Nat) (q : (fq mi pc 34 && (Nat.beq (sx_wc (fw mi pc)) v && Nat.beq (Nat.add pc 3) pc')) = true) (k : fx W r d mi pc' L (v :: S) g Q) : fx W r d mi pc L S g Q := by
  obtain ⟨q1, q2⟩ := f_and q
  obtain ⟨q2, q3⟩ := f_and q2
  obtain ⟨o1, o2⟩ := fq_ok q1
  refine fx_s o2 (fun ih D h cs ss _ => ?_) k
  rw [cx_b34 o1]
  unfold sx_oGets
  rw [sx_fo_eq, sx_fo_eq, show sx_wc (sx_ft (sx_mt mi).1 pc) = v from sx_beq q2, show Nat.add pc 3 = pc' from sx_beq q3]
/-- of a String its coder, 0 -/
theorem fx_sc (pc' : Nat) {v : Nat} (q : (fq mi pc 38 && (Nat.beq (sx_wb (fw mi pc)) 0 && Nat.beq (Nat.add pc 3) pc')) = true) (hs : sx_isS v = true) (k : fx W r d mi pc' L (fI 0 :: S) g Q) : fx W r d mi pc L (v :: S) g Q := by
  obtain ⟨q1, q2⟩ := f_and q
  obtain ⟨q2, q3⟩ := f_and q2
  obtain ⟨o1, o2⟩ := fq_ok q1
  refine fx_s o2 (fun ih D h cs ss _ => ?_) k
  rw [cx_b38 o1]
  unfold sx_oSget
  rw [fcp1, hs, sx_if_t, sx_fo_eq, show Nat.beq (sx_wb (sx_ft (sx_mt mi).1 pc)) 0 = true from q2, sx_if_t, show Nat.add pc 3 = pc' from sx_beq q3]
  rfl
/-- of a String its bytes -/
theorem fx_sv (pc' u : Nat) {v : Nat} (q : (fq mi pc 38 && (Nat.beq (sx_wb (fw mi pc)) 1 && Nat.beq (Nat.add pc 3) pc')) = true) (hs : sx_isS v = true) (hu : Nat.add (Nat.mul 8 (Nat.add (sx_pl v) sx_ns)) 5 = u) (k : fx W r d mi pc' L (u :: S) g Q) : fx W r d mi pc L (v :: S) g Q := by
  obtain ⟨q1, q2⟩ := f_and q
  obtain ⟨q2, q3⟩ := f_and q2
  obtain ⟨o1, o2⟩ := fq_ok q1
  refine fx_s o2 (fun ih D h cs ss _ => ?_) k
  rw [cx_b38 o1]
  unfold sx_oSget
  rw [fcp1, hs, sx_if_t, sx_fo_eq, show sx_wb (sx_ft (sx_mt mi).1 pc) = 1 from sx_beq q2, sx_beq_e (by decide), sx_if_f, sx_fo_eq, show Nat.add pc 3 = pc' from sx_beq q3, hu]
/-- the bytes of the String v -/
def fStr (v : Nat) : List Nat := (sx_sb[sx_pl v - 2]?).getD []
theorem f_nth {α : Type} {l : List α} {k : Nat} {a : α} (h : l[k]? = some a) : sx_nth l k = some a := by rw [sx_nth_eq, h]
/-- v's bytes are known -/
def f_sk (v : Nat) : Prop := sx_isS v = true ∧ sx_sb[sx_pl v - 2]? = some (fStr v) ∧ (fStr v).length < 1000 ∧ ∀ b ∈ fStr v, b < 128
theorem f_isB {v : Nat} (hs : sx_isS v = true) : sx_isB (Nat.add (Nat.mul 8 (Nat.add (sx_pl v) sx_ns)) 5) = true ∧ Nat.sub (sx_pl (Nat.add (Nat.mul 8 (Nat.add (sx_pl v) sx_ns)) 5)) (Nat.add 2 sx_ns) = sx_pl v - 2 := by
  obtain ⟨h1, h2⟩ := sx_and_ok hs
  obtain ⟨h2, h3⟩ := sx_and_ok h2
  have h2 := sx_ble h2
  have e : sx_pl (Nat.add (Nat.mul 8 (Nat.add (sx_pl v) sx_ns)) 5) = sx_pl v + sx_ns := show (8 * (sx_pl v + sx_ns) + 5) / 8 = _ by omega
  refine ⟨?_, ?_⟩
  · unfold sx_isB
    rw [sx_beq_t (show sx_tg (Nat.add (Nat.mul 8 (Nat.add (sx_pl v) sx_ns)) 5) = 5 from show (8 * (sx_pl v + sx_ns) + 5) % 8 = 5 by omega), cx_at, e]
    exact Nat.ble_eq.mpr (show 2 + sx_ns ≤ sx_pl v + sx_ns by omega)
  · rw [e]
    show sx_pl v + sx_ns - (2 + sx_ns) = _
    omega
theorem fx_alb (pc' : Nat) {v : Nat} (q : fq mi pc 17 = true) (hp : pc + 1 = pc') (hs : f_sk v) (k : fx W r d mi pc' L (fI ((fStr v).length : Int) :: S) g Q) : fx W r d mi pc L (Nat.add (Nat.mul 8 (Nat.add (sx_pl v) sx_ns)) 5 :: S) g Q := by
  subst hp
  obtain ⟨o1, o2⟩ := fq_ok q
  obtain ⟨b1, b2⟩ := f_isB hs.1
  refine fx_s o2 (fun ih D h cs ss _ => ?_) k
  rw [cx_b17 o1]
  unfold sx_oAlenX
  rw [fcp1, b1, sx_if_t, b2, f_nth hs.2.1]
  show sx_fo _ _ = _
  have := hs.2.2.1
  rw [sx_fo_eq, sx_fo_eq, show Nat.mul 8 (List.length (fStr v)) = fI ((fStr v).length : Int) from by unfold fI; show 8 * _ = 8 * _; omega]
theorem fx_bal (pc' : Nat) {v : Nat} {i : Int} (q : fq mi pc 36 = true) (hp : pc + 1 = pc') (hs : f_sk v) (h0 : 0 ≤ i) (h1 : i < (fStr v).length) (k : fx W r d mi pc' L (fI (((fStr v).getD i.toNat 0 : Nat) : Int) :: S) g Q) : fx W r d mi pc L (fI i :: Nat.add (Nat.mul 8 (Nat.add (sx_pl v) sx_ns)) 5 :: S) g Q := by
  subst hp
  obtain ⟨o1, o2⟩ := fq_ok q
  obtain ⟨b1, b2⟩ := f_isB hs.1
  have hl := hs.2.2.1
  refine fx_s o2 (fun ih D h cs ss _ => ?_) k
  rw [cx_b36 o1]
  unfold sx_oBald
  rw [fcp1, fcp1, b1, sx_if_t, b2, f_nth hs.2.1]
  have e : (fStr v)[i.toNat]? = some ((fStr v).getD i.toNat 0) := by
    rw [List.getD_eq_getElem?_getD, List.getElem?_eq_getElem (by omega)]
    rfl
  have e8 : Nat.mul 8 ((fStr v).getD i.toNat 0) = fI (((fStr v).getD i.toNat 0 : Nat) : Int) := by
    have := hs.2.2.2 _ (List.mem_of_getElem? e)
    unfold fI
    show 8 * _ = 8 * _
    omega
  show sx_ix (fI i) W.sy _ = _
  rw [fI_eq, cx_ix, fI_n h0 (by omega), f_nth e]
  show sx_fo _ _ = _
  rw [sx_fo_eq, sx_fo_eq, e8]
theorem fx_i2c (pc' : Nat) {z : Int} (q : fq mi pc 42 = true) (hp : pc + 1 = pc') (h0 : 0 ≤ z) (h1 : z < 65536) (k : fx W r d mi pc' L (fI z :: S) g Q) : fx W r d mi pc L (fI z :: S) g Q := by
  subst hp
  obtain ⟨o1, o2⟩ := fq_ok q
  refine fx_s o2 (fun ih D h cs ss _ => ?_) k
  rw [cx_b42 o1]
  unfold sx_oI2c
  rw [fcp1, fI_eq, cx_nm, ← fI_eq, fI_tg, sx_beq_t rfl, cx_at, sx_blt_t (show sx_pl (fI z) < 65536 by show fI z / 8 < _; unfold fI; omega), sx_if_t, sx_fo_eq]
/-- all of the array a into the array b -/
def fcy (g : Nat → Nat → Int) (a b : Nat) : Nat → Nat → Int := fun c j => if c = b then g a j else g c j
theorem fx_cpy (pa a pb b len pc' : Nat) (q : (fq mi pc 25 && (Nat.beq pa (8 * a + 2) && (Nat.beq pb (8 * b + 2) && (Nat.blt a 160 && (Nat.blt b 160 && (Nat.beq (Nat.mod (ax_cl a).1 256) 100 && (Nat.beq (ax_cl a).1 (ax_cl b).1 && (Nat.beq (Nat.div (ax_cl a).1 256) len && (Nat.blt len 2147483648 && Nat.beq (Nat.add pc 3) pc'))))))))) = true) (hl : Nat.ble S.length 40 = true) (k : fx W r d mi pc' L S (fcy g a b) Q) : fx W r d mi pc L (fI (len : Int) :: fI 0 :: pb :: fI 0 :: pa :: S) g Q := fun D h cs ss hD hv h1 h2 => by
  obtain ⟨q1, q⟩ := f_and q
  obtain ⟨q2, q⟩ := f_and q
  obtain ⟨q3, q⟩ := f_and q
  obtain ⟨q4, q⟩ := f_and q
  obtain ⟨q5, q⟩ := f_and q
  obtain ⟨q6, q⟩ := f_and q
  obtain ⟨q7, q⟩ := f_and q
  obtain ⟨q8, q⟩ := f_and q
  obtain ⟨q9, q10⟩ := f_and q
  obtain ⟨o1, o2⟩ := fq_ok q1
  have q2 := sx_beq q2
  have q3 := sx_beq q3
  have q4 := sx_blt q4
  have q5 := sx_blt q5
  have q6' : (ax_cl a).1 % 256 = 100 := sx_beq q6
  have q7 : (ax_cl a).1 = (ax_cl b).1 := sx_beq q7
  have q8 : (ax_cl a).1 / 256 = len := sx_beq q8
  have q9' := sx_blt q9
  subst q2 q3
  have hv' : HV (sx_wr h b ((sx_rd h b).1, (sx_rd h a).2)) (fcy g a b) := by
    refine ⟨fun c' hc' => ?_, fun c' j' hc' hj' => ?_⟩
    · by_cases e : c' = b
      · subst e; rw [sx_rd_wr]; exact hv.1 _ hc'
      · rw [sx_rd_wr_ne _ _ (by omega) (by omega) e]; exact hv.1 _ hc'
    · unfold fcy
      by_cases e : c' = b
      · subst e
        rw [sx_rd_wr, if_pos rfl]
        have u := hv.2 a j' q4 (by rw [q7]; exact hj')
        have o1 := f_okp (j := j') q4 q6'
        have o2 := f_okp (j := j') q5 (by rw [← q7]; exact q6')
        refine ⟨?_, fun _ => u.2.1 o1.1, fun t => absurd o2.2 t⟩
        show sx_get (sx_rd h a).2 j' = _
        rw [u.1]
        unfold fEnc
        rw [if_pos o1.1, if_pos o2.1]
      · rw [sx_rd_wr_ne _ _ (by omega) (by omega) e, if_neg e]
        exact hv.2 _ _ hc' hj'
  refine cx_step rfl o2 (k D _ cs ss hD hv' h1 h2) (fun ih => ?_)
  rw [cx_b25 o1]
  unfold sx_oCpy
  have e8 : fI (len : Int) = Nat.mul 8 (Nat.div (ax_cl a).1 256) := by
    unfold fI
    show 8 * _ = 8 * ((ax_cl a).1 / 256)
    omega
  rw [fcp1, fcp1, fcp1, fcp1, fcp1, hl, cx_at, show Nat.beq (fI 0) 0 = true from rfl, cx_at, f_ref q4, f_ref q5, cx_at, cx_at, sx_if_t, sx_rdK_eq, sx_rdK_eq, f_plr, f_plr, hv.1 a q4, hv.1 b q5, q6, cx_at, sx_beq_t q7, cx_at, sx_blt_t (show Nat.div (ax_cl a).1 256 < 2147483648 from by show (ax_cl a).1 / 256 < _; omega), cx_at, e8, sx_beq_t rfl, sx_if_t, sx_wrK_eq, sx_fo_eq, show Nat.add pc 3 = pc' from sx_beq q10]
end FXE
end
section
/-! fx: what the walks use -/
theorem fu_app (g : Nat → Nat → Int) (c j : Nat) (z : Int) (c' j' : Nat) : fu g c j z c' j' = if c' = c ∧ j' = j then z else g c' j' := rfl
theorem fcy_app (g : Nat → Nat → Int) (a b c j : Nat) : fcy g a b c j = if c = b then g a j else g c j := rfl
theorem fx_simp0 : ((1 : Int) = 0) = False := by decide
theorem f_n4p {x v : Nat} (h : x = v) (hv : v % 8 ≠ 4) : x % 8 ≠ 4 := by rw [h]; exact hv
theorem f_sty {v : Nat} (h : f_sk v) : sx_ty 1 v = true := by
  obtain ⟨h1, -⟩ := sx_and_ok h.1
  unfold sx_ty
  rw [sx_beq_e (by decide), sx_if_f, sx_beq_t rfl, sx_if_t, sx_beq h1]
  rfl
theorem f_s4 {v : Nat} (h : f_sk v) : v % 8 ≠ 4 := by
  obtain ⟨h1, -⟩ := sx_and_ok h.1
  have h1 : v % 8 = 5 := sx_beq h1
  omega
theorem f_b4 {v : Nat} : Nat.add (Nat.mul 8 (Nat.add (sx_pl v) sx_ns)) 5 % 8 ≠ 4 := by
  show (8 * (sx_pl v + sx_ns) + 5) % 8 ≠ 4
  omega
theorem f_q22 {mi pc mj a n pc' : Nat} {P : List Nat} (h : ((fq mi pc 22 && Nat.beq (sx_wc (fw mi pc)) mj) && f_qi mi pc mj n pc' P) = true) : (f_qm mi pc mj 22 a && f_qi mi pc mj n pc' P) = true := h
theorem f_q39 {mi pc mj a n pc' : Nat} {P : List Nat} (hs : sx_isS a = true) (h : ((fq mi pc 39 && Nat.beq (sx_wc (fw mi pc)) mj) && f_qi mi pc mj n pc' P) = true) : (f_qm mi pc mj 39 a && f_qi mi pc mj n pc' P) = true := by
  obtain ⟨h1, h2⟩ := f_and h
  obtain ⟨h1, h3⟩ := f_and h1
  show ((fq mi pc 39 && (Nat.beq (sx_wc (fw mi pc)) mj && sx_isS a)) && f_qi mi pc mj n pc' P) = true
  rw [h1, h2, h3, hs]
  rfl
section FXF
variable {W : ax_W} {r : Nat} {g : Nat → Nat → Int} {Q : Nat → Nat → (Nat → Nat → Int) → Prop}
theorem sp_isIn {v lo hi : Int} (hv : fR v) (hl : fR lo) (hh : fR hi) (k1 : lo ≤ v ∧ v ≤ hi → Q 1 (fI 1) g) (k2 : ¬ (lo ≤ v ∧ v ≤ hi) → Q 1 (fI 0) g) : fx W r 0 265 0 [fI v, fI lo, fI hi] [] g Q := by
  unfold fR at hv hl hh
  refine fx_li 0 1 (by decide +kernel) rfl ?_
  refine fx_li 1 2 (by decide +kernel) rfl ?_
  refine fx_ilt 14 5 (by decide +kernel) (by unfold fR; omega) (by unfold fR; omega) (fun h2 => ?_) (fun h2 => ?_)
  · refine fx_ci (0) 15 (by decide +kernel) ?_
    refine fx_retb (by decide +kernel) (by first | exact Or.inl rfl | exact Or.inr rfl | omega) ?_
    first | exact k1 ⟨by omega, by omega⟩ | exact k2 (fun t => by omega)
  · refine fx_li 0 6 (by decide +kernel) rfl ?_
    refine fx_li 2 7 (by decide +kernel) rfl ?_
    refine fx_igt 14 10 (by decide +kernel) (by unfold fR; omega) (by unfold fR; omega) (fun h7 => ?_) (fun h7 => ?_)
    · refine fx_ci (0) 15 (by decide +kernel) ?_
      refine fx_retb (by decide +kernel) (by first | exact Or.inl rfl | exact Or.inr rfl | omega) ?_
      first | exact k1 ⟨by omega, by omega⟩ | exact k2 (fun t => by omega)
    · refine fx_ci (1) 11 (by decide +kernel) ?_
      refine fx_go 15 (by decide +kernel) ?_
      refine fx_retb (by decide +kernel) (by first | exact Or.inl rfl | exact Or.inr rfl | omega) ?_
      first | exact k1 ⟨by omega, by omega⟩ | exact k2 (fun t => by omega)
/-- the letters that are read: of the tape, or of the law that is kept -/
def flt (g : Nat → Nat → Int) (k : Int) : Int := if g 148 9 = -1 then g 153 k.toNat else g 149 (g 148 9 + k).toNat
theorem sp_letter {k : Int} (hk : 0 ≤ k) (hb : (g 148 9 = -1 ∧ k < 400) ∨ (0 ≤ g 148 9 ∧ g 148 9 + k < 764)) (kq : Q 1 (fI (flt g k)) g) : fx W r 0 271 0 [1186, fI k] [] g Q := by
  unfold flt at kq
  refine fx_rg (fun hg => ?_)
  refine fx_la 0 1 (v := 1186) (by decide +kernel) rfl (by decide +kernel) ?_
  refine fx_gi 1186 148 9 4 (by decide +kernel) ?_
  refine fx_ci (-1) 5 (by decide +kernel) ?_
  refine fx_ine 17 8 (by decide +kernel) (by first | exact hg 148 9 (by decide) (by decide +kernel) (by decide +kernel) | (unfold fR; omega)) (by unfold fR; omega) (fun h5 => ?_) (fun h5 => ?_)
  · refine fx_la 0 18 (v := 1186) (by decide +kernel) rfl (by decide +kernel) ?_
    refine fx_gp 1186 148 1 1194 21 (by decide +kernel) ?_
    refine fx_la 0 22 (v := 1186) (by decide +kernel) rfl (by decide +kernel) ?_
    refine fx_gi 1186 148 9 25 (by decide +kernel) ?_
    refine fx_li 1 26 (by decide +kernel) rfl ?_
    refine fx_add 27 (by decide +kernel) rfl ?_
    refine fx_al 1194 149 764 28 (by decide +kernel) rfl (by omega) (by omega) rfl ?_
    refine fx_ret (by decide +kernel) ?_
    first | (rw [if_neg (by omega)] at kq; exact kq) | (rw [if_pos (by omega)] at kq; exact kq)
  · refine fx_la 0 9 (v := 1186) (by decide +kernel) rfl (by decide +kernel) ?_
    refine fx_gp 1186 148 7 1226 12 (by decide +kernel) ?_
    refine fx_li 1 13 (by decide +kernel) rfl ?_
    refine fx_al 1226 153 400 14 (by decide +kernel) rfl (by omega) (by omega) rfl ?_
    refine fx_go 28 (by decide +kernel) ?_
    refine fx_ret (by decide +kernel) ?_
    first | (rw [if_neg (by omega)] at kq; exact kq) | (rw [if_pos (by omega)] at kq; exact kq)
end FXF
theorem f_bty {v : Nat} : sx_ty 1 (Nat.add (Nat.mul 8 (Nat.add (sx_pl v) sx_ns)) 5) = true := by
  have e : sx_tg (Nat.add (Nat.mul 8 (Nat.add (sx_pl v) sx_ns)) 5) = 5 := show (8 * (sx_pl v + sx_ns) + 5) % 8 = 5 by omega
  unfold sx_ty
  rw [sx_beq_e (by decide), sx_if_f, sx_beq_t rfl, sx_if_t, e]
  rfl
end
section
/-! fx: stretches of letters -/
def spn (p : Int → Bool) : Nat → Int → Int
  | 0, i => i
  | n + 1, i => if p i = true then spn p n (i + 1) else i
def prun (p : Int → Bool) (E i : Int) : Int := spn p (E - i).toNat i
theorem prun_stop {p : Int → Bool} {E i : Int} (h : E ≤ i) : prun p E i = i := by
  unfold prun
  rw [show (E - i).toNat = 0 by omega]
  rfl
theorem prun_step {p : Int → Bool} {E i : Int} (h : i < E) (hp : p i = true) : prun p E i = prun p E (i + 1) := by
  unfold prun
  rw [show (E - i).toNat = (E - (i + 1)).toNat + 1 by omega]
  show (if p i = true then _ else _) = _
  rw [if_pos hp]
theorem prun_no {p : Int → Bool} {E i : Int} (hp : p i = false) : prun p E i = i := by
  unfold prun
  cases (E - i).toNat with
  | zero => rfl
  | succ n =>
    show (if p i = true then _ else _) = _
    rw [hp]
    rfl
theorem spn_ok {p : Int → Bool} : ∀ (n : Nat) (i : Int), i ≤ spn p n i ∧ spn p n i ≤ i + n ∧ (∀ k, i ≤ k → k < spn p n i → p k = true) ∧ (spn p n i < i + n → p (spn p n i) = false)
  | 0, i => ⟨by show i ≤ i; omega, by show i ≤ i + 0; omega, fun k h1 h2 => by have h2 : k < i := h2; omega, fun h => by have h : i < i + 0 := h; omega⟩
  | n + 1, i => by
    show i ≤ (if p i = true then spn p n (i + 1) else i) ∧ (if p i = true then spn p n (i + 1) else i) ≤ i + (n + 1 : Nat) ∧ (∀ k, i ≤ k → k < (if p i = true then spn p n (i + 1) else i) → p k = true) ∧ ((if p i = true then spn p n (i + 1) else i) < i + (n + 1 : Nat) → p (if p i = true then spn p n (i + 1) else i) = false)
    obtain ⟨h1, h2, h3, h4⟩ := spn_ok (p := p) n (i + 1)
    by_cases hp : p i = true
    · rw [if_pos hp]
      refine ⟨by omega, by omega, fun k k1 k2 => ?_, fun h => h4 (by omega)⟩
      by_cases e : k = i
      · rw [e]; exact hp
      · exact h3 k (by omega) k2
    · rw [if_neg hp]
      refine ⟨by omega, by omega, fun k k1 k2 => by omega, fun _ => ?_⟩
      cases q : p i with
      | true => exact absurd q hp
      | false => rfl
theorem prun_ge {p : Int → Bool} {E i : Int} : i ≤ prun p E i := (spn_ok _ _).1
theorem prun_le {p : Int → Bool} {E i : Int} (h : i ≤ E) : prun p E i ≤ E := by have := (spn_ok (p := p) (E - i).toNat i).2.1; unfold prun; omega
theorem prun_all {p : Int → Bool} {E i k : Int} (h1 : i ≤ k) (h2 : k < prun p E i) : p k = true := (spn_ok _ _).2.2.1 k h1 h2
theorem prun_end {p : Int → Bool} {E i : Int} (h : prun p E i < E) (hi : i ≤ E) : p (prun p E i) = false := (spn_ok _ _).2.2.2 (by unfold prun at h; omega)
theorem prun_idem {p : Int → Bool} {E i : Int} (hi : i ≤ E) : prun p E (prun p E i) = prun p E i := by
  by_cases h : prun p E i < E
  · exact prun_no (prun_end h hi)
  · exact prun_stop (by omega)
def isSp (T : Int → Int) (i : Int) : Bool := decide (T i = 32)
def isLe (T : Int → Int) (i : Int) : Bool := decide (97 ≤ T i ∧ T i ≤ 122)
def isDi (T : Int → Int) (i : Int) : Bool := decide (48 ≤ T i ∧ T i ≤ 57)
abbrev pSk (T : Int → Int) (E i : Int) : Int := prun (isSp T) E i
abbrev pWe (T : Int → Int) (E i : Int) : Int := prun (isLe T) E i
abbrev pDg (T : Int → Int) (E i : Int) : Int := prun (isDi T) E i
theorem pSk_ge (T : Int → Int) (E i : Int) : i ≤ pSk T E i := prun_ge
theorem pWe_ge (T : Int → Int) (E i : Int) : i ≤ pWe T E i := prun_ge
theorem pDg_ge (T : Int → Int) (E i : Int) : i ≤ pDg T E i := prun_ge
theorem pSk_le {T : Int → Int} {E i : Int} (h : i ≤ E) : pSk T E i ≤ E := prun_le h
theorem pWe_le {T : Int → Int} {E i : Int} (h : i ≤ E) : pWe T E i ≤ E := prun_le h
theorem pDg_le {T : Int → Int} {E i : Int} (h : i ≤ E) : pDg T E i ≤ E := prun_le h
theorem pSk_id {T : Int → Int} {E i : Int} (h : i ≤ E) : pSk T E (pSk T E i) = pSk T E i := prun_idem h
/-- the word s stands at i, and no letter behind it -/
def pWd (T : Int → Int) (E : Int) (ws : List Nat) (i : Int) : Prop := pWe T E i - i = ws.length ∧ ∀ k : Nat, k < ws.length → T (i + k) = (ws.getD k 0 : Nat)
theorem fu_self (g : Nat → Nat → Int) (c j : Nat) : fu g c j (g c j) = g := by
  funext c' j'
  unfold fu
  split
  · rename_i h; rw [h.1, h.2]
  · rfl
theorem fu_fu (g : Nat → Nat → Int) (c j : Nat) (y z : Int) : fu (fu g c j y) c j z = fu g c j z := by
  funext c' j'
  unfold fu
  split <;> rfl
theorem fu_sw (g : Nat → Nat → Int) {c j c2 j2 : Nat} (y z : Int) (h : ¬ (c = c2 ∧ j = j2)) : fu (fu g c j y) c2 j2 z = fu (fu g c2 j2 z) c j y := by
  funext c' j'
  unfold fu
  by_cases h1 : c' = c2 ∧ j' = j2
  · rw [if_pos h1]
    by_cases h2 : c' = c ∧ j' = j
    · exact absurd ⟨h2.1.symm.trans h1.1, h2.2.symm.trans h1.2⟩ h
    · rw [if_neg h2, if_pos h1]
  · rw [if_neg h1]
    by_cases h2 : c' = c ∧ j' = j
    · rw [if_pos h2, if_pos h2]
    · rw [if_neg h2, if_neg h2, if_neg h1]
/-! the reference reads -/
/-- the letters T, E of them; -1: of the tape -/
def RT (T : Int → Int) (E : Int) (g : Nat → Nat → Int) : Prop := g 148 10 = E ∧ 0 ≤ E ∧ E ≤ 400 ∧ (g 148 9 = -1 ∨ g 148 9 = 364) ∧ ∀ k, 0 ≤ k → k < 400 → flt g k = T k ∧ 0 ≤ T k ∧ T k ≤ 255
theorem RT_fu {T : Int → Int} {E : Int} {g : Nat → Nat → Int} (h : RT T E g) {j : Nat} {z : Int} (h1 : j ≠ 9) (h2 : j ≠ 10) : RT T E (fu g 148 j z) := by
  obtain ⟨a1, a2, a3, a4, a5⟩ := h
  refine ⟨by rw [fu_nj (Ne.symm h2)]; exact a1, a2, a3, by rw [fu_nj (Ne.symm h1)]; exact a4, fun k k0 k1 => ?_⟩
  have e : flt (fu g 148 j z) k = flt g k := by
    unfold flt
    rw [fu_nj (Ne.symm h1), fu_nc (by decide), fu_nc (by decide)]
  rw [e]
  exact a5 k k0 k1
section FXG
variable {W : ax_W} {r : Nat} {g : Nat → Nat → Int} {Q : Nat → Nat → (Nat → Nat → Int) → Prop} {T : Int → Int} {E : Int}
theorem sp_letterT {k : Int} (h : RT T E g) (hk : 0 ≤ k) (hE : k < 400) (kq : Q 1 (fI (T k)) g) : fx W r 0 271 0 [1186, fI k] [] g Q := by
  obtain ⟨a1, a2, a3, a4, a5⟩ := h
  refine sp_letter hk (by omega) ?_
  rw [(a5 k hk hE).1]
  exact kq
theorem sp_skip_n : ∀ (n : Nat) (g : Nat → Nat → Int), RT T E g → 0 ≤ g 148 11 → (E - g 148 11).toNat = n → Q 0 0 (fu g 148 11 (spn (isSp T) n (g 148 11))) → fx W r 1 270 0 [1186] [] g Q
  | 0, g, h, h0, hn, kq => by
    have hs := h
    obtain ⟨a1, a2, a3, a4, a5⟩ := h
    refine fx_rg (fun hg => ?_)
    have kq : Q 0 0 (fu g 148 11 (g 148 11)) := kq
    rw [fu_self] at kq
    refine fx_la 0 1 (v := 1186) (by decide +kernel) rfl (by decide +kernel) ?_
    refine fx_gi 1186 148 11 4 (by decide +kernel) ?_
    refine fx_la 0 5 (v := 1186) (by decide +kernel) rfl (by decide +kernel) ?_
    refine fx_gi 1186 148 10 8 (by decide +kernel) ?_
    refine fx_ige 37 11 (by decide +kernel) (by first | exact hg 148 11 (by decide) (by decide +kernel) (by decide +kernel) | (unfold fR; omega)) (by first | exact hg 148 10 (by decide) (by decide +kernel) (by decide +kernel) | (unfold fR; omega)) (fun h8 => ?_) (fun h8 => ?_)
    · refine fx_vret (by decide +kernel) ?_
      exact kq
    · refine fx_la 0 12 (v := 1186) (by decide +kernel) rfl (by decide +kernel) ?_
      refine fx_la 0 13 (v := 1186) (by decide +kernel) rfl (by decide +kernel) ?_
      refine fx_gi 1186 148 11 16 (by decide +kernel) ?_
      refine fx_c2 271 21 19 0 [] (by decide +kernel) (by decide) (by decide) (fI_n4 _) rfl (by first | decide | omega) ?_
      exfalso; omega
  | n + 1, g, h, h0, hn, kq => by
    have hs := h
    obtain ⟨a1, a2, a3, a4, a5⟩ := h
    refine fx_rg (fun hg => ?_)
    have kq : Q 0 0 (fu g 148 11 (if isSp T (g 148 11) = true then spn (isSp T) n (g 148 11 + 1) else g 148 11)) := kq
    refine fx_la 0 1 (v := 1186) (by decide +kernel) rfl (by decide +kernel) ?_
    refine fx_gi 1186 148 11 4 (by decide +kernel) ?_
    refine fx_la 0 5 (v := 1186) (by decide +kernel) rfl (by decide +kernel) ?_
    refine fx_gi 1186 148 10 8 (by decide +kernel) ?_
    refine fx_ige 37 11 (by decide +kernel) (by first | exact hg 148 11 (by decide) (by decide +kernel) (by decide +kernel) | (unfold fR; omega)) (by first | exact hg 148 10 (by decide) (by decide +kernel) (by decide +kernel) | (unfold fR; omega)) (fun h8 => ?_) (fun h8 => ?_)
    · refine fx_vret (by decide +kernel) ?_
      first
        | (exfalso; omega)
        | (rw [if_neg (by unfold isSp; simp only [decide_eq_true_eq]; omega), fu_self] at kq
           exact kq)
    · refine fx_la 0 12 (v := 1186) (by decide +kernel) rfl (by decide +kernel) ?_
      refine fx_la 0 13 (v := 1186) (by decide +kernel) rfl (by decide +kernel) ?_
      refine fx_gi 1186 148 11 16 (by decide +kernel) ?_
      refine fx_c2 271 21 19 0 [] (by decide +kernel) (by decide) (by decide) (fI_n4 _) rfl (by first | decide | omega) ?_
      have t5 := a5 (g 148 11) h0 (by omega)
      refine sp_letterT hs h0 (by omega) (fK1 ?_)
      refine fx_ci (32) 21 (by decide +kernel) ?_
      refine fx_ine 37 24 (by decide +kernel) (by unfold fR; omega) (by unfold fR; omega) (fun h21 => ?_) (fun h21 => ?_)
      · refine fx_vret (by decide +kernel) ?_
        first
          | (exfalso; omega)
          | (rw [if_neg (by unfold isSp; simp only [decide_eq_true_eq]; omega), fu_self] at kq
             exact kq)
      · refine fx_la 0 25 (v := 1186) (by decide +kernel) rfl (by decide +kernel) ?_
        refine fx_dup 26 (by decide +kernel) rfl (by decide) ?_
        refine fx_gi 1186 148 11 29 (by decide +kernel) ?_
        try simp only [fu_app, fcy_app, Nat.reduceEqDiff, and_true, and_false, false_and, true_and, if_true, if_false, ite_true, ite_false, reduceIte, Int.reduceToNat, fx_simp0]
        refine fx_ci (1) 30 (by decide +kernel) ?_
        refine fx_add 31 (by decide +kernel) rfl ?_
        refine fx_pi 1186 148 11 34 (by decide +kernel) (by unfold fR; omega) ?_
        refine fx_go 0 (by decide +kernel) ?_
        rw [if_pos (by unfold isSp; simp only [decide_eq_true_eq]; omega)] at kq
        refine sp_skip_n n _ (RT_fu hs (by decide) (by decide)) (by rw [fu_eq]; omega) (by rw [fu_eq]; omega) ?_
        rw [fu_eq, fu_fu]
        exact kq
theorem sp_skip (h : RT T E g) (h0 : 0 ≤ g 148 11) (kq : Q 0 0 (fu g 148 11 (pSk T E (g 148 11)))) : fx W r 1 270 0 [1186] [] g Q := sp_skip_n _ g h h0 rfl kq
end FXG
end
section
/-! fx: Strings; words, signs, numbers as the reference reads them -/
theorem fop_shr_all : ∀ n, n < 1000 → fI (fop 7 ((n : Nat) : Int) 0) = fI (n : Int) := by decide +kernel
theorem fop_and_all : ∀ n, n < 128 → fI (fop 3 ((n : Nat) : Int) 255) = fI (n : Int) := by decide +kernel
section FXH
variable {W : ax_W} {r : Nat} {g : Nat → Nat → Int} {Q : Nat → Nat → (Nat → Nat → Int) → Prop} {T : Int → Int} {E : Int} {s : Nat}
theorem sp_coder (hs : f_sk s) (kq : Q 1 (fI 0) g) : fx W r 0 81 0 [s] [] g Q := by
  refine fx_gs 8 3 (by decide +kernel) ?_
  rw [show (8 : Nat) = fI 1 from rfl]
  refine fx_zeq 13 6 (by decide +kernel) (by unfold fR; omega) (fun hc => absurd hc (by decide)) (fun _ => ?_)
  refine fx_la 0 7 (v := s) (by decide +kernel) rfl (f_sty hs) ?_
  refine fx_sc 10 (by decide +kernel) hs.1 ?_
  refine fx_go 14 (by decide +kernel) ?_
  refine fx_retc 128 (by decide +kernel) (by omega) (by omega) rfl ?_
  exact kq
theorem sp_len (hs : f_sk s) (kq : Q 1 (fI ((fStr s).length : Int)) g) : fx W r 1 80 0 [s] [] g Q := by
  refine fx_la 0 1 (v := s) (by decide +kernel) rfl (f_sty hs) ?_
  refine fx_sv 4 _ (by decide +kernel) hs.1 rfl ?_
  refine fx_alb 5 (by decide +kernel) rfl hs ?_
  refine fx_la 0 6 (v := s) (by decide +kernel) rfl (f_sty hs) ?_
  refine fx_c1 81 39 9 0 [] (f_q39 hs.1 (by decide +kernel)) (f_s4 hs) rfl (by first | decide | omega) ?_
  refine sp_coder hs (fK1 ?_)
  refine fx_bin 7 10 (by decide +kernel) rfl (fun h => absurd h (by decide)) ?_
  rw [fop_shr_all _ hs.2.2.1]
  refine fx_ret (by decide +kernel) ?_
  exact kq
theorem sp_isLatin (hs : f_sk s) (kq : Q 1 (fI 1) g) : fx W r 0 83 0 [s] [] g Q := by
  refine fx_gs 8 3 (by decide +kernel) ?_
  rw [show (8 : Nat) = fI 1 from rfl]
  refine fx_zeq 17 6 (by decide +kernel) (by unfold fR; omega) (fun hc => absurd hc (by decide)) (fun _ => ?_)
  refine fx_la 0 7 (v := s) (by decide +kernel) rfl (f_sty hs) ?_
  refine fx_sc 10 (by decide +kernel) hs.1 ?_
  refine fx_zne 17 13 (by decide +kernel) (by unfold fR; omega) (fun hc => absurd hc (by decide)) (fun _ => ?_)
  refine fx_ci (1) 14 (by decide +kernel) ?_
  refine fx_go 18 (by decide +kernel) ?_
  refine fx_retb (by decide +kernel) (by first | exact Or.inl rfl | exact Or.inr rfl | omega) ?_
  exact kq
theorem sp_pci {i n : Int} (h0 : 0 ≤ i) (h1 : i < n) (hn : n < 1000) (kq : Q 1 (fI i) g) : fx W r 0 86 0 [fI i, fI n, 15] [] g Q := by
  refine fx_li 0 1 (by decide +kernel) rfl ?_
  refine fx_zlt 9 4 (by decide +kernel) (by unfold fR; omega) (fun h => by omega) (fun _ => ?_)
  refine fx_li 0 5 (by decide +kernel) rfl ?_
  refine fx_li 1 6 (by decide +kernel) rfl ?_
  refine fx_ilt 16 9 (by decide +kernel) (by unfold fR; omega) (by unfold fR; omega) (fun _ => ?_) (fun h => by omega)
  refine fx_li 0 17 (by decide +kernel) rfl ?_
  exact fx_ret (by decide +kernel) kq
theorem sp_ci {i n : Int} (h0 : 0 ≤ i) (h1 : i < n) (hn : n < 1000) (kq : Q 0 0 g) : fx W r 1 85 0 [fI i, fI n] [] g Q := by
  refine fx_li 0 1 (by decide +kernel) rfl ?_
  refine fx_li 1 2 (by decide +kernel) rfl ?_
  refine fx_gs 15 5 (by decide +kernel) ?_
  refine fx_c3 86 22 8 0 [] (f_q22 (by decide +kernel)) (by decide) (fI_n4 _) (fI_n4 _) (by decide) rfl (by first | decide | omega) ?_
  refine sp_pci h0 h1 hn (fK1 ?_)
  refine fx_pop 9 (by decide +kernel) rfl (fI_n4 _) ?_
  refine fx_vret (by decide +kernel) ?_
  exact kq
theorem sp_lcharAt {i : Int} (hs : f_sk s) (h0 : 0 ≤ i) (h1 : i < (fStr s).length) (kq : Q 1 (fI ((fStr s).getD i.toNat 0 : Nat)) g) : fx W r 2 84 0 [Nat.add (Nat.mul 8 (Nat.add (sx_pl s) sx_ns)) 5, fI i] [] g Q := by
  have hl := hs.2.2.1
  have hb : (fStr s).getD i.toNat 0 < 128 := by
    refine hs.2.2.2 _ (List.mem_of_getElem? (i := i.toNat) ?_)
    rw [List.getD_eq_getElem?_getD, List.getElem?_eq_getElem (by omega)]
    rfl
  refine fx_li 1 1 (by decide +kernel) rfl ?_
  refine fx_la 0 2 (v := Nat.add (Nat.mul 8 (Nat.add (sx_pl s) sx_ns)) 5) (by decide +kernel) rfl (f_bty) ?_
  refine fx_alb 3 (by decide +kernel) rfl hs ?_
  refine fx_c2 85 22 6 1 [] (f_q22 (by decide +kernel)) (by decide) (fI_n4 _) (fI_n4 _) rfl (by first | decide | omega) ?_
  refine sp_ci h0 h1 (by omega) (fK0 ?_)
  refine fx_la 0 7 (v := Nat.add (Nat.mul 8 (Nat.add (sx_pl s) sx_ns)) 5) (by decide +kernel) rfl (f_bty) ?_
  refine fx_li 1 8 (by decide +kernel) rfl ?_
  refine fx_bal 9 (by decide +kernel) rfl hs (by omega) (by omega) ?_
  refine fx_ci (255) 12 (by decide +kernel) ?_
  refine fx_bin 3 13 (by decide +kernel) rfl (fun h => absurd h (by decide)) ?_
  rw [fop_and_all _ hb]
  refine fx_i2c 14 (by decide +kernel) rfl (by omega) (by omega) ?_
  refine fx_retc 65536 (by decide +kernel) (by omega) (by omega) rfl ?_
  exact kq
theorem sp_charAt {i : Int} (hs : f_sk s) (h0 : 0 ≤ i) (h1 : i < (fStr s).length) (kq : Q 1 (fI ((fStr s).getD i.toNat 0 : Nat)) g) : fx W r 3 82 0 [s, fI i] [] g Q := by
  have hb : (fStr s).getD i.toNat 0 < 128 := by
    refine hs.2.2.2 _ (List.mem_of_getElem? (i := i.toNat) ?_)
    rw [List.getD_eq_getElem?_getD, List.getElem?_eq_getElem (by omega)]
    rfl
  refine fx_la 0 1 (v := s) (by decide +kernel) rfl (f_sty hs) ?_
  refine fx_c1 83 39 4 0 [] (f_q39 hs.1 (by decide +kernel)) (f_s4 hs) rfl (by first | decide | omega) ?_
  refine sp_isLatin hs (fK1 ?_)
  · refine fx_zeq 16 7 (by decide +kernel) (by unfold fR; omega) (fun hc => absurd hc (by decide)) (fun _ => ?_)
    refine fx_la 0 8 (v := s) (by decide +kernel) rfl (f_sty hs) ?_
    refine fx_sv 11 _ (by decide +kernel) hs.1 rfl ?_
    refine fx_li 1 12 (by decide +kernel) rfl ?_
    refine fx_c2 84 22 15 2 [] (f_q22 (by decide +kernel)) (by decide) f_b4 (fI_n4 _) rfl (by first | decide | omega) ?_
    refine sp_lcharAt hs h0 h1 (fK1 ?_)
    refine fx_retc 65536 (by decide +kernel) (by omega) (by omega) rfl ?_
    exact kq
end FXH
end
section
/-! fx: words, signs, numbers as the reference reads them -/
section FXI
variable {W : ax_W} {r : Nat} {g : Nat → Nat → Int} {Q : Nat → Nat → (Nat → Nat → Int) → Prop} {T : Int → Int} {E : Int} {s : Nat}
theorem RT_t {k : Int} (h : RT T E g) (h0 : 0 ≤ k) (h1 : k < E) : 0 ≤ T k ∧ T k ≤ 255 := (h.2.2.2.2 k h0 (by have := h.2.2.1; omega)).2
theorem sp_has_1 : ∀ (n : Nat) (k : Int), RT T E g → f_sk s → 0 ≤ k → k ≤ 410 → (E - k).toNat = n → fx W r 4 274 38 [1186, s, fI (spn (isLe T) n k), 7] [] g Q → fx W r 4 274 9 [1186, s, fI k, 7] [] g Q
  | n, k, h, hs, h0, h4, hn, kq => by
    have a1 := h.1
    have a3 := h.2.2.1
    have aE := h.2.1
    refine fx_rg (fun hg => ?_)
    refine fx_li 2 10 (by decide +kernel) rfl ?_
    refine fx_la 0 11 (v := 1186) (by decide +kernel) rfl (by decide +kernel) ?_
    refine fx_gi 1186 148 10 14 (by decide +kernel) ?_
    rw [a1]
    cases n with
    | zero =>
      exact fx_ige 38 17 (by decide +kernel) (by unfold fR; omega) (by unfold fR; omega) (fun _ => kq) (fun h => by omega)
    | succ n =>
      refine fx_ige 38 17 (by decide +kernel) (by unfold fR; omega) (by unfold fR; omega) (fun h => by omega) (fun h14 => ?_)
      have kq : fx W r 4 274 38 [1186, s, fI (if isLe T k = true then spn (isLe T) n (k + 1) else k), 7] [] g Q := kq
      have t5 := RT_t h h0 h14
      refine fx_la 0 18 (v := 1186) (by decide +kernel) rfl (by decide +kernel) ?_
      refine fx_li 2 19 (by decide +kernel) rfl ?_
      refine fx_c2 271 21 22 0 [] (by decide +kernel) (by decide) (by decide) (fI_n4 _) rfl (by first | decide | omega) ?_
      refine sp_letterT h h0 (by omega) (fK1 ?_)
      refine fx_ci (97) 24 (by decide +kernel) ?_
      refine fx_ci (122) 26 (by decide +kernel) ?_
      refine fx_c3 265 22 29 0 [] (f_q22 (by decide +kernel)) (by decide) (fI_n4 _) (fI_n4 _) (fI_n4 _) rfl (by first | decide | omega) ?_
      refine sp_isIn (by unfold fR; omega) (by unfold fR; omega) (by unfold fR; omega) (fun b26 => fK1 ?_) (fun b26 => fK1 ?_)
      · refine fx_zeq 38 32 (by decide +kernel) (by unfold fR; omega) (fun hc => absurd hc (by decide)) (fun _ => ?_)
        refine fx_inc 2 35 (1) (by decide +kernel) rfl (Or.inr (f_s4 hs)) rfl ?_
        dsimp only [List.set]
        refine fx_go 9 (by decide +kernel) ?_
        rw [if_pos (by unfold isLe; simp only [decide_eq_true_eq]; exact b26)] at kq
        exact sp_has_1 n (k + 1) h hs (by omega) (by omega) (by omega) kq
      · refine fx_zeq 38 32 (by decide +kernel) (by unfold fR; omega) (fun _ => ?_) (fun hc => absurd hc (by decide))
        rw [if_neg (by unfold isLe; simp only [decide_eq_true_eq]; exact b26)] at kq
        exact kq
theorem sp_has_2 {at0 k0 : Int} (h : RT T E g) (hs : f_sk s) (ha : g 148 11 = at0) (h0 : 0 ≤ at0) (hE : at0 + (fStr s).length ≤ E) : ∀ (n i : Nat), i + n = (fStr s).length → (∀ k : Nat, k < i → T (at0 + k) = ((fStr s).getD k 0 : Nat)) → ((∀ k : Nat, k < (fStr s).length → T (at0 + k) = ((fStr s).getD k 0 : Nat)) → fx W r 4 274 89 [1186, s, fI k0, fI ((fStr s).length : Int)] [] g Q) → (¬ (∀ k : Nat, k < (fStr s).length → T (at0 + k) = ((fStr s).getD k 0 : Nat)) → Q 1 (fI 0) g) → fx W r 4 274 55 [1186, s, fI k0, fI (i : Int)] [] g Q
  | n, i, hn, hi, k1, k2 => by
    have hl := hs.2.2.1
    have a1 := h.1
    have a3 := h.2.2.1
    refine fx_rg (fun hg => ?_)
    refine fx_li 3 56 (by decide +kernel) rfl ?_
    refine fx_la 1 57 (v := s) (by decide +kernel) rfl (f_sty hs) ?_
    refine fx_c1 80 39 60 1 [] (f_q39 hs.1 (by decide +kernel)) (f_s4 hs) rfl (by first | decide | omega) ?_
    refine sp_len hs (fK1 ?_)
    refine fx_ige 89 63 (by decide +kernel) (by unfold fR; omega) (by unfold fR; omega) (fun h60 => ?_) (fun h60 => ?_)
    · have e : i = (fStr s).length := by omega
      subst e
      exact k1 hi
    · refine fx_la 0 64 (v := 1186) (by decide +kernel) rfl (by decide +kernel) ?_
      refine fx_la 0 65 (v := 1186) (by decide +kernel) rfl (by decide +kernel) ?_
      refine fx_gi 1186 148 11 68 (by decide +kernel) ?_
      try simp only [fu_app, fcy_app, Nat.reduceEqDiff, and_true, and_false, false_and, true_and, if_true, if_false, ite_true, ite_false, reduceIte, Int.reduceToNat, fx_simp0]
      refine fx_li 3 69 (by decide +kernel) rfl ?_
      refine fx_add 70 (by decide +kernel) rfl ?_
      rw [ha]
      have tv := RT_t h (k := at0 + i) (by omega) (by omega)
      have bv : (fStr s).getD i 0 < 128 := by
        refine hs.2.2.2 _ (List.mem_of_getElem? (i := i) ?_)
        rw [List.getD_eq_getElem?_getD, List.getElem?_eq_getElem (by omega)]
        rfl
      refine fx_c2 271 21 73 0 [] (by decide +kernel) (by decide) (by decide) (fI_n4 _) rfl (by first | decide | omega) ?_
      refine sp_letterT h (by omega) (by omega) (fK1 ?_)
      refine fx_la 1 74 (v := s) (by decide +kernel) rfl (f_sty hs) ?_
      refine fx_li 3 75 (by decide +kernel) rfl ?_
      refine fx_c2 82 39 78 3 [] (f_q39 hs.1 (by decide +kernel)) (by decide) (f_s4 hs) (fI_n4 _) rfl (by first | decide | omega) ?_
      refine sp_charAt hs (by omega) (by omega) (fK1 ?_)
      rw [show ((i : Int)).toNat = i from rfl]
      refine fx_ieq 83 81 (by decide +kernel) (by unfold fR; omega) (by unfold fR; omega) (fun h78 => ?_) (fun h78 => ?_)
      · refine fx_inc 3 86 (1) (by decide +kernel) rfl (Or.inr (fI_n4 _)) rfl ?_
        dsimp only [List.set]
        refine fx_go 55 (by decide +kernel) ?_
        match n, hn with
        | 0, hn => exfalso; omega
        | n + 1, hn =>
          exact sp_has_2 h hs ha h0 hE n (i + 1) (by omega) (fun k hk => by
            by_cases e : k = i
            · rw [e]; exact h78
            · exact hi k (by omega)) k1 k2
      · refine fx_ci (0) 82 (by decide +kernel) ?_
        refine fx_retb (by decide +kernel) (by first | exact Or.inl rfl | exact Or.inr rfl | omega) ?_
        exact k2 (fun t => h78 (t i (by omega)))
theorem sp_has (h : RT T E g) (hs : f_sk s) (h0 : 0 ≤ g 148 11) (h4 : g 148 11 ≤ E)
    (k1 : pWd T E (fStr s) (pSk T E (g 148 11)) → Q 1 (fI 1) (fu g 148 11 (pWe T E (pSk T E (g 148 11)))))
    (k2 : ¬ pWd T E (fStr s) (pSk T E (g 148 11)) → Q 1 (fI 0) (fu g 148 11 (pSk T E (g 148 11)))) : fx W r 4 274 0 [1186, s, 7, 7] [] g Q := by
  have hl := hs.2.2.1
  have a1 := h.1
  have aE := h.2.1
  have a3 := h.2.2.1
  have f0 := pSk_ge T E (g 148 11)
  have f1 := pSk_le (T := T) h4
  have w0 := pWe_ge T E (pSk T E (g 148 11))
  have w1 := pWe_le (T := T) f1
  have h' := RT_fu h (j := 11) (z := pSk T E (g 148 11)) (by decide) (by decide)
  refine fx_la 0 1 (v := 1186) (by decide +kernel) rfl (by decide +kernel) ?_
  refine fx_c1 270 21 4 1 [] (by decide +kernel) (by decide) rfl (by first | decide | omega) ?_
  refine sp_skip h h0 (fK0 ?_)
  refine fx_la 0 5 (v := 1186) (by decide +kernel) rfl (by decide +kernel) ?_
  refine fx_gi 1186 148 11 8 (by decide +kernel) ?_
  try simp only [fu_app, fcy_app, Nat.reduceEqDiff, and_true, and_false, false_and, true_and, if_true, if_false, ite_true, ite_false, reduceIte, Int.reduceToNat, fx_simp0]
  try rw [fu_eq]
  refine fx_si 2 9 (by decide +kernel) (Or.inr (f_s4 hs)) rfl ?_
  dsimp only [List.set]
  refine sp_has_1 _ _ h' hs (by omega) (by omega) rfl ?_
  show fx W r _ _ 38 [_, s, fI (pWe T E (pSk T E (g 148 11))), 7] [] _ Q
  refine fx_li 2 39 (by decide +kernel) rfl ?_
  refine fx_la 0 40 (v := 1186) (by decide +kernel) rfl (by decide +kernel) ?_
  refine fx_gi 1186 148 11 43 (by decide +kernel) ?_
  try simp only [fu_app, fcy_app, Nat.reduceEqDiff, and_true, and_false, false_and, true_and, if_true, if_false, ite_true, ite_false, reduceIte, Int.reduceToNat, fx_simp0]
  try rw [fu_eq]
  refine fx_sub 44 (by decide +kernel) rfl ?_
  refine fx_la 1 45 (v := s) (by decide +kernel) rfl (f_sty hs) ?_
  refine fx_c1 80 39 48 1 [] (f_q39 hs.1 (by decide +kernel)) (f_s4 hs) rfl (by first | decide | omega) ?_
  refine sp_len hs (fK1 ?_)
  refine fx_ieq 53 51 (by decide +kernel) (by unfold fR; omega) (by unfold fR; omega) (fun h48 => ?_) (fun h48 => ?_)
  · refine fx_ci (0) 54 (by decide +kernel) ?_
    refine fx_si 3 55 (by decide +kernel) (Or.inr (fI_n4 _)) rfl ?_
    dsimp only [List.set]
    refine sp_has_2 h' hs (fu_eq _ _ _ _) (by omega) (by omega) _ 0 (Nat.zero_add _) (fun k hk => absurd hk (Nat.not_lt_zero k)) (fun t => ?_) (fun t => k2 (fun q => t q.2))
    have k1 := k1 ⟨h48, t⟩
    refine fx_la 0 90 (v := 1186) (by decide +kernel) rfl (by decide +kernel) ?_
    refine fx_li 2 91 (by decide +kernel) rfl ?_
    refine fx_pi 1186 148 11 94 (by decide +kernel) (by unfold fR; omega) ?_
    refine fx_ci (1) 95 (by decide +kernel) ?_
    refine fx_retb (by decide +kernel) (by first | exact Or.inl rfl | exact Or.inr rfl | omega) ?_
    rw [fu_fu]
    exact k1
  · refine fx_ci (0) 52 (by decide +kernel) ?_
    refine fx_retb (by decide +kernel) (by first | exact Or.inl rfl | exact Or.inr rfl | omega) ?_
    exact k2 (fun t => h48 t.1)
end FXI
end
