/-! ax: calls -/
section AXInv
variable {W : ax_W} {ih : ax_ih} {g : ax_G} {d D mi cd : Nat} {lst : List ax_I} {pc w : Nat} {L S : List Nat} {M : ax_M} {F : ax_F} {Y : ax_Y} {n th : Nat} {ρ : List Nat} {outs : List ax_O} {hh : sx_H} {cs ss : Nat} {cL cS : List Nat} {Post : sx_O → Prop}
theorem ax_fc_ok {mj d : Nat} {av : List Nat} {c : ax_C} : ∀ {l : List ax_C}, ax_fc M Y n mj av d l = some c → c ∈ l ∧ c.1 = mj ∧ c.2.1 ≤ d ∧ ax_am Y n c.2.2.1 av = true ∧ ax_pm M Y n c.2.2.2.1 = true
  | [], h => by cases h
  | q :: l, h => by
    have h : sx_if (sx_and (sx_and (Nat.beq q.1 mj) (Nat.ble q.2.1 d)) (sx_and (ax_am Y n q.2.2.1 av) (ax_pm M Y n q.2.2.2.1))) (some q) (ax_fc M Y n mj av d l) = some c := h
    cases t : sx_and (sx_and (Nat.beq q.1 mj) (Nat.ble q.2.1 d)) (sx_and (ax_am Y n q.2.2.1 av) (ax_pm M Y n q.2.2.2.1)) with
    | true =>
      rw [t, sx_if_t] at h
      cases h
      obtain ⟨t1, t2⟩ := sx_and_ok t
      obtain ⟨t0, t1⟩ := sx_and_ok t1
      obtain ⟨t2, t3⟩ := sx_and_ok t2
      exact ⟨List.mem_cons_self, sx_beq t0, sx_ble t1, t2, t3⟩
    | false =>
      rw [t, sx_if_f] at h
      obtain ⟨h1, h2⟩ := ax_fc_ok h
      exact ⟨List.mem_cons_of_mem _ h1, h2⟩
theorem ax_us_ok {mj : Nat} {c : ax_C} : ∀ {l : List (Nat × List ax_C)}, c ∈ ax_us l mj → ∃ q ∈ l, c ∈ q.2
  | [], h => by cases h
  | q :: l, h => by
    have h : c ∈ sx_if (Nat.beq q.1 mj) q.2 (ax_us l mj) := h
    cases t : Nat.beq q.1 mj with
    | true => rw [t, sx_if_t] at h; exact ⟨q, List.mem_cons_self, h⟩
    | false =>
      rw [t, sx_if_f] at h
      obtain ⟨q', h1, h2⟩ := ax_us_ok h
      exact ⟨q', List.mem_cons_of_mem _ h1, h2⟩
def ax_Gv (N : Nat) (sy : sx_Y) (g : ax_G) : Prop := ∀ q ∈ g.2.2.1, ∀ c ∈ q.2, ax_Valid N sy c
/-- the first argument, as the contract knows it -/
theorem ax_a0_ok {av cav : List Nat} {fn : Nat} {K : Nat → ax_R} (hY : ax_Yk ρ Y n) (HA : ax_Ls ρ av cav) (h : (List.rec none (fun a0 _ _ => ax_nm Y n a0 (fun a0 => sx_if (sx_if (Nat.beq fn 1) (ax_in Y n a0 2147483648 2147483903) true) (K a0) none)) (av ++ [0]) : ax_R) = some outs) :
    ∃ a0, K a0 = some outs ∧ (fn = 1 → ∀ A, sx_ln cav 0 = sx_i A → ax_J ρ a0 (sx_b A) ∧ 2147483648 ≤ sx_b A ∧ sx_b A < 2147483904) := by
  cases av with
  | nil =>
    have h : ax_nm Y n 0 (fun a0 => sx_if (sx_if (Nat.beq fn 1) (ax_in Y n a0 2147483648 2147483903) true) (K a0) none) = some outs := h
    rw [ax_nm_ne (by decide)] at h
    obtain ⟨-, h1⟩ := ax_if0 h
    have e := HA.nl
    subst e
    refine ⟨0, h1, fun _ A q => ?_⟩
    have q : 7 = sx_i A := q
    have := ax_i_t A
    omega
  | cons x t =>
    obtain ⟨v, r, rfl, hv, -⟩ := HA.c
    have h : ax_nm Y n x (fun a0 => sx_if (sx_if (Nat.beq fn 1) (ax_in Y n a0 2147483648 2147483903) true) (K a0) none) = some outs := h
    rcases ax_nm_V h hY hv with ⟨-, P, a', rfl, j, h1⟩ | ⟨t1, h1⟩
    · obtain ⟨c, h2⟩ := ax_if0 h1
      refine ⟨a', h2, fun hf A q => ?_⟩
      rw [sx_beq_t hf, sx_if_t] at c
      have q : sx_i P = sx_i A := q
      have e : P = A := by
        have t1 := (sx_i_ok P).2
        rw [q, (sx_i_ok A).2] at t1
        exact t1.symm
      subst e
      have b := ax_in_ok c hY j
      exact ⟨j, by omega, by omega⟩
    · obtain ⟨c, h2⟩ := ax_if0 h1
      refine ⟨x, h2, fun hf A q => ?_⟩
      rw [sx_beq_t hf, sx_if_t] at c
      have := ax_in_tag c
      omega
theorem ax_call_ok (hG : ax_Gk W g) (hV : ax_Gv W.N W.sy g) (C : ax_Cx W ih d D mi cd lst pc w L S M F Y n th ρ outs hh cs ss cL cS Post) {av rest cav crest : List Nat} {mj : Nat} (h : ax_call ih g d mi cd lst pc L M F Y n th av rest mj = some outs) (HA : ax_Ls ρ av cav) (HR : ax_Ls ρ rest crest)
    (hb : ∀ ih' : sx_ih, sx_body ih' W.N w D mi cd [] pc cL cS hh 160 W.sy cs ss = sx_call ih' D mi cd [] pc cL hh 160 W.sy cs ss cav crest mj) : cx_G W D mi cd pc cL cS hh cs ss Post := by
  have hdD := C.dd
  cases d with
  | zero => cases h
  | succ d' =>
    obtain ⟨D', rfl⟩ : ∃ D', D = D' + 1 := ⟨D - 1, by omega⟩
    have h : ax_mtK mj (fun cj fj => ax_mtK mi (fun _ f =>
      sx_if (sx_and (Nat.blt 0 cj) (Nat.ble (Nat.add (Nat.mul 2 (List.length rest)) (sx_im fj)) 89))
        (Option.rec none (fun Lj => Option.rec none (fun outs => ax_cont ih (d' + 1) mi cd lst pc L rest (sx_ihd f) outs)
          (Option.rec (ih d' mj cj [] false 0 Lj [] M F Y n th) (fun c => ax_by g M F Y n th c av) (ax_fc M Y n mj av d' (sx_if (ax_bl g.2.2.2.2.2.2.2 mi mj) [] (ax_us g.2.2.1 mj))))) (ax_xp av (sx_im fj))) none)) = some outs := h
    rw [ax_mtK_eq, ax_mtK_eq] at h
    obtain ⟨c, h1⟩ := ax_if0 h
    obtain ⟨c1, c2⟩ := sx_and_ok c
    obtain ⟨Lj, hLj, h2⟩ := ax_opt_h h1
    obtain ⟨os, hos, h3⟩ := ax_opt_h h2
    obtain ⟨cLj, k1, k2⟩ := ax_xp_ok hLj HA
    have rm1 := C.wk.rm1
    have rm2 := C.wk.rm2
    have r1 := C.X.r1
    have r2 := C.X.r2
    have r3 := C.X.r3
    have r4 := C.X.r4
    have hb' : ∀ ih' : sx_ih, sx_body ih' W.N w (D' + 1) mi cd [] pc cL cS hh 160 W.sy cs ss = Option.rec none (fun outs => sx_cont ih' (D' + 1) mi cd [] pc cL crest (sx_ihd (sx_mt mi).2) outs) (ih' D' mj (sx_mt mj).1 [] false 0 cLj [] hh 160 W.sy cs ss) := fun ih' => by
      rw [hb]
      show sx_mtK mj (fun cj fj => sx_mtK mi (fun _ f =>
        sx_if (sx_and (sx_and (Nat.blt 0 cj) (Nat.ble (Nat.add (Nat.mul 2 (List.length crest)) (sx_im fj)) 89)) (sx_and (Nat.ble cs 600002) (Nat.ble ss 7302232)))
          (Option.rec none (fun Lj => Option.rec none (fun outs => sx_cont ih' (D' + 1) mi cd [] pc cL crest (sx_ihd f) outs)
            (ih' D' mj cj [] false 0 Lj [] hh 160 W.sy cs ss)) (sx_xp cav (sx_im fj))) none)) = _
      rw [sx_mtK_eq, sx_mtK_eq, HR.len, c1, c2, show Nat.ble cs 600002 = true from Nat.ble_eq.mpr (by omega), show Nat.ble ss 7302232 = true from Nat.ble_eq.mpr (by omega), cx_at, cx_at, sx_if_t, k1]
    have cont : ∀ {ao : ax_O} {ρ' : List Nat} {co : sx_O}, ao ∈ os → ρ <+: ρ' → ax_Or W ρ' ao co → cx_K W (D' + 1) mi cd pc cL crest (sx_ihd (sx_mt mi).2) co Post := by
      intro ao ρ' co ha hp hO
      obtain ⟨o', m1, m2⟩ := ax_cont_mem h3 ha
      exact ax_cont_ok C.wk C.ok C.dd C.HL HR C.Pq C.Hq m1 m2 hp hO
    refine cx_call C.hw C.wh hb' ?_
    cases hfc : ax_fc M Y n mj av d' (sx_if (ax_bl g.2.2.2.2.2.2.2 mi mj) [] (ax_us g.2.2.1 mj)) with
    | none =>
      rw [hfc] at hos
      exact C.ok d' mj _ [] false 0 Lj [] M F Y n th os hos D' ρ cLj [] hh cs ss _ (by omega) C.X k2 ax_Ls.nil (fun ao ha ρ' co hp hO => cont ha hp hO) (fun e he => by cases he)
    | some c0 =>
      rw [hfc] at hos
      have hos : ax_by g M F Y n th c0 av = some os := hos
      obtain ⟨q1, q2, q3, q4, q5⟩ := ax_fc_ok hfc
      have hc0 : c0 ∈ ax_us g.2.2.1 mj := by
        cases t : ax_bl g.2.2.2.2.2.2.2 mi mj with
        | true => rw [t, sx_if_t] at q1; cases q1
        | false => rw [t, sx_if_f] at q1; exact q1
      obtain ⟨q, q6, q7⟩ := ax_us_ok hc0
      have hv := hV q q6 c0 q7
      unfold ax_by at hos
      obtain ⟨e1, e2⟩ := ax_if0 hos
      obtain ⟨e1, e3⟩ := sx_and_ok e1
      have e1 : Nat.land c0.2.2.2.2.1 W.md = c0.2.2.2.2.1 := by rw [← hG.md]; exact sx_beq e1
      have e3 : th < W.lim := by rw [← hG.lm]; exact sx_blt e3
      obtain ⟨a0, e4, e5⟩ := ax_a0_ok C.X.yk HA e2
      subst q2
      obtain ⟨co, ev, v1, v2, t, v3, v4⟩ := hv D' cav hh cs ss cLj (by omega) (ax_am_ok C.X.yk q4 HA) (ax_pm_ok C.X.yk C.X.mm q5) C.X.hs (by omega) (by omega) k1
      obtain ⟨o', m1, m2⟩ := ax_to_mem e4 v3
      obtain ⟨ao, n1, ρ', n2, n3⟩ := ax_to1_ok C.wk C.X m1 e1 e3 v1 v2 v4 e5
      exact ⟨co, ev, cont (m2 _ n1) n2 n3⟩
theorem ax_inv_ok (hG : ax_Gk W g) (hV : ax_Gv W.N W.sy g) (C : ax_Cx W ih d D mi cd lst pc w L S M F Y n th ρ outs hh cs ss cL cS Post) {w' : Nat} {vt : Bool} (h : ax_oInv ih g w' d mi cd lst pc L S M F Y n th vt = some outs)
    (hb : ∀ ih' : sx_ih, sx_body ih' W.N w D mi cd [] pc cL cS hh 160 W.sy cs ss = sx_oInv ih' w' D mi cd [] pc cL cS hh 160 W.sy cs ss vt) : cx_G W D mi cd pc cL cS hh cs ss Post := by
  unfold ax_oInv at h
  rw [sx_fo_eq, ax_mtK_eq] at h
  obtain ⟨av, rest, cav, crest, h1, HA, HR, hk⟩ := ax_tk_ok (ρ := ρ) _ h C.HS ax_Ls.nil
  cases vt with
  | false =>
    have h1 : ax_call ih g d mi cd lst pc L M F Y n th av rest (sx_wc w') = some outs := h1
    refine ax_call_ok hG hV C h1 HA HR (fun ih' => ?_)
    rw [hb]; unfold sx_oInv
    rw [sx_fo_eq, sx_mtK_eq, hk, sx_if_f]
  | true =>
    obtain ⟨o, r, v, cr, e1, f1, h2, hv, H⟩ := ax_pop h1 HA
    obtain ⟨c, h3⟩ := ax_if0 h2
    obtain ⟨rfl, hc, ht⟩ := ax_ref2 hv c
    rw [ax_gK_eq] at h3
    obtain ⟨c1, h4⟩ := ax_if0 h3
    refine ax_call_ok hG hV C h4 HA HR (fun ih' => ?_)
    rw [hb]; unfold sx_oInv
    rw [sx_fo_eq, sx_mtK_eq, hk, sx_if_t, f1, cx_p1, cx_ref ht hc, sx_if_t, C.X.hs.rd hc, c1, sx_if_t]
theorem ax_s21 (hG : ax_Gk W g) (hV : ax_Gv W.N W.sy g) (C : ax_Cx W ih d D mi cd lst pc w L S M F Y n th ρ outs hh cs ss cL cS Post) (hop : sx_op w = 21) (h : ax_oInv ih g w d mi cd lst pc L S M F Y n th true = some outs) : cx_G W D mi cd pc cL cS hh cs ss Post :=
  ax_inv_ok hG hV C h (fun ih' => cx_b21 hop)
theorem ax_s22 (hG : ax_Gk W g) (hV : ax_Gv W.N W.sy g) (C : ax_Cx W ih d D mi cd lst pc w L S M F Y n th ρ outs hh cs ss cL cS Post) (hop : sx_op w = 22) (h : ax_oInv ih g w d mi cd lst pc L S M F Y n th false = some outs) : cx_G W D mi cd pc cL cS hh cs ss Post :=
  ax_inv_ok hG hV C h (fun ih' => cx_b22 hop)
theorem ax_s39 (hG : ax_Gk W g) (hV : ax_Gv W.N W.sy g) (C : ax_Cx W ih d D mi cd lst pc w L S M F Y n th ρ outs hh cs ss cL cS Post) (hop : sx_op w = 39) (h : ax_oInvX ih g w d mi cd lst pc L S M F Y n th = some outs) : cx_G W D mi cd pc cL cS hh cs ss Post := by
  unfold ax_oInvX at h
  rw [sx_fo_eq, ax_mtK_eq] at h
  obtain ⟨av, rest, cav, crest, h1, HA, HR, hk⟩ := ax_tk_ok (ρ := ρ) _ h C.HS ax_Ls.nil
  obtain ⟨o, r, v, cr, e1, f1, h2, hv, H⟩ := ax_pop h1 HA
  obtain ⟨c, h3⟩ := ax_if0 h2
  have ht : o % 8 = 5 := sx_beq (sx_and_ok c).1
  obtain ⟨-, rfl⟩ := hv.toRef (by omega) (by omega)
  refine ax_call_ok hG hV C h3 HA HR (fun ih' => ?_)
  rw [cx_b39 hop]; unfold sx_oInvX
  rw [sx_fo_eq, sx_mtK_eq, hk, f1, cx_p1, c, sx_if_t]
theorem ax_s40 (hG : ax_Gk W g) (hV : ax_Gv W.N W.sy g) (C : ax_Cx W ih d D mi cd lst pc w L S M F Y n th ρ outs hh cs ss cL cS Post) (hop : sx_op w = 40) (h : ax_oInvW ih g w d mi cd lst pc L S M F Y n th = some outs) : cx_G W D mi cd pc cL cS hh cs ss Post := by
  unfold ax_oInvW at h
  obtain ⟨o, r, v, cr, e1, f1, h1, hv, H⟩ := ax_pop h C.HS
  obtain ⟨c, h2⟩ := ax_if0 h1
  obtain ⟨rfl, hc, ht⟩ := ax_ref2 hv c
  rw [ax_gK_eq] at h2
  rcases ax_if h2 with ⟨c1, h3⟩ | ⟨c1, h3⟩
  · rw [sx_fo_eq] at h3
    refine ax_inv_ok hG hV C h3 (fun ih' => ?_)
    rw [cx_b40 hop]; unfold sx_oInvW
    rw [f1, cx_p1, C.X.hs.rd hc, c1, sx_if_t, sx_fo_eq]
  · rw [sx_fo_eq] at h3
    refine ax_inv_ok hG hV C h3 (fun ih' => ?_)
    rw [cx_b40 hop]; unfold sx_oInvW
    rw [f1, cx_p1, C.X.hs.rd hc, c1, sx_if_f, sx_fo_eq]
end AXInv
