/-! ax: steps on cells -/
theorem ax_J_n {ρ : List Nat} {j : Nat} (h : j < 2147483648) : ax_J ρ (8 * j) (2147483648 + j) :=
  ⟨by omega, Or.inl ⟨by omega, by omega, by rw [Nat.mul_div_cancel_left _ (by decide), ax_bs_eq]; omega⟩⟩
section AXS3
variable {W : ax_W} {ih : ax_ih} {g : ax_G} {d D mi cd : Nat} {lst : List ax_I} {pc w : Nat} {L S : List Nat} {M : ax_M} {F : ax_F} {Y : ax_Y} {n th : Nat} {ρ : List Nat} {outs : List ax_O} {hh : sx_H} {cs ss : Nat} {cL cS : List Nat} {Post : sx_O → Prop}
theorem ax_ref2 {o v : Nat} (h : ax_V ρ o v) (t : Nat.beq (sx_tg o) 2 = true) : v = o ∧ sx_pl o < 160 ∧ sx_tg o = 2 := by
  have t' : o % 8 = 2 := sx_beq t
  obtain ⟨k, e⟩ := h.toRef (by omega) (by omega)
  exact ⟨e, k.2.2.2 t', t'⟩
theorem cx_ref {o : Nat} (t : sx_tg o = 2) (h : sx_pl o < 160) : sx_and (Nat.beq (sx_tg o) 2) (Nat.blt (sx_pl o) 160) = true := by
  rw [sx_beq_t t, sx_blt_t h]; rfl
theorem ax_Hs.rd (hs : ax_Hs hh) {c : Nat} (hc : c < 160) {β : Type} (f : Nat → Nat → β) : sx_rdK hh c f = f (ax_cl c).1 (sx_rd hh c).2 := by rw [sx_rdK_eq, hs.hd c hc]
theorem ax_Cx.red (C : ax_Cx W ih d D mi cd lst pc w L S M F Y n th ρ outs hh cs ss cL cS Post) {p v : Nat} {r cr : List Nat} (G : ax_Red W ρ hh outs (fun v M Y n => ax_on ih d mi cd lst th p L (v :: r) M F Y n) v) (H : ax_Ls ρ r cr)
    (hb : ∀ ih, sx_body ih W.N w D mi cd [] pc cL cS hh 160 W.sy cs ss = ih D mi cd [] false p cL (v :: cr) hh 160 W.sy cs ss) : cx_G W D mi cd pc cL cS hh cs ss Post := by
  obtain ⟨ρ', a, M', Y', n', o', h1, h2, h3, h4, h5, h6⟩ := G
  exact C.go h1 h2 h3 ((C.X.mono h3 h4).m h6) (C.HL.mono' h3) (ax_Ls.cons h5 (H.mono' h3)) hb
theorem ax_s9 (C : ax_Cx W ih d D mi cd lst pc w L S M F Y n th ρ outs hh cs ss cL cS Post) (hop : sx_op w = 9) (h : ax_oGet ih g w d mi cd lst pc L S M F Y n th = some outs) : cx_G W D mi cd pc cL cS hh cs ss Post := by
  unfold ax_oGet at h
  obtain ⟨o, r, v, cr, e1, f1, h1, hv, H⟩ := ax_pop h C.HS
  subst e1 f1
  obtain ⟨c, h2⟩ := ax_if0 h1
  obtain ⟨rfl, hc, ht⟩ := ax_ref2 hv c
  rw [ax_gK_eq, sx_fo_eq] at h2
  rcases ax_if h2 with ⟨-, h3⟩ | ⟨c0, h3⟩
  · cases h3
  · rw [sx_fo_eq] at h3
    obtain ⟨cj, h4⟩ := ax_if0 h3
    have cj : Nat.pred (Nat.mod (sx_slot (Nat.mod (ax_cl (sx_pl v)).1 256) (sx_wa w)) 32) < (ax_cl (sx_pl v)).1 / 256 := sx_blt cj
    have cj2 : Nat.pred (Nat.mod (sx_slot (Nat.mod (ax_cl (sx_pl v)).1 256) (sx_wa w)) 32) < 32 := by
      show sx_slot (Nat.mod (ax_cl (sx_pl v)).1 256) (sx_wa w) % 32 - 1 < 32
      omega
    have R := ax_ld_ok h4 C.X.yk C.X.mm C.X.hs hc cj (ax_J_n (by omega)) (fun _ => rfl) (Nat.le_refl _) (Nat.le_refl _) (fun q => absurd q (by omega))
    refine C.red R H (fun ih => ?_)
    rw [cx_b9 hop]; unfold sx_oGet
    rw [cx_p1, cx_ref ht hc, sx_if_t, C.X.hs.rd hc, sx_fo_eq, c0, sx_if_f, sx_fo_eq, sx_fo_eq]
theorem ax_i_lt (P : Int32) : sx_i P < 34359738368 := by
  have := P.toBitVec.isLt
  rw [ax_i_eq]; omega
theorem ax_s10 (hG : ax_Gk W g) (C : ax_Cx W ih d D mi cd lst pc w L S M F Y n th ρ outs hh cs ss cL cS Post) (hop : sx_op w = 10) (h : ax_oPut ih g w d mi cd lst pc L S M F Y n th = some outs) : cx_G W D mi cd pc cL cS hh cs ss Post := by
  unfold ax_oPut at h
  obtain ⟨a, r1, v, cr1, e1, f1, g1, hv, H1⟩ := ax_pop h C.HS
  obtain ⟨o, r2, vo, cr2, e2, f2, g2, ho, H2⟩ := ax_pop g1 H1
  subst e2 f2 e1 f1
  obtain ⟨c, h2⟩ := ax_if0 g2
  obtain ⟨rfl, hc, ht⟩ := ax_ref2 ho c
  rw [ax_gK_eq, sx_fo_eq] at h2
  rcases ax_if h2 with ⟨-, h3⟩ | ⟨c0, h3⟩
  · cases h3
  · rw [sx_fo_eq, sx_fo_eq] at h3
    obtain ⟨cj, h4⟩ := ax_if0 h3
    obtain ⟨c1, c2⟩ := sx_and_ok cj
    obtain ⟨c1, c3⟩ := sx_and_ok c1
    obtain ⟨c3, c4⟩ := sx_and_ok c3
    obtain ⟨c2, c5⟩ := sx_and_ok c2
    obtain ⟨c2, ck⟩ := sx_and_ok c2
    rw [sx_fo_eq] at h4
    generalize hjd : Nat.pred (Nat.mod (sx_slot (Nat.mod (ax_cl (sx_pl vo)).1 256) (sx_wa w)) 32) = j at *
    have c1 : j < (ax_cl (sx_pl vo)).1 / 256 := sx_blt c1
    have c3 : (ax_cl (sx_pl vo)).1 % 256 < 100 := sx_blt c3
    have har : ax_ar (sx_pl vo) = false := by
      unfold ax_ar
      exact sx_ble_e (show ¬ 100 ≤ Nat.mod (ax_cl (sx_pl vo)).1 256 by show ¬ 100 ≤ (ax_cl (sx_pl vo)).1 % 256; omega)
    have j32 : j < 32 := by
      rw [← hjd]
      show sx_slot (Nat.mod (ax_cl (sx_pl vo)).1 256) (sx_wa w) % 32 - 1 < 32
      omega
    rw [hG.md] at c2 ck
    have c2 : ax_tb W.md (ax_bit (ax_ar (sx_pl vo)) (sx_pl vo) j) = true := by rw [har]; exact c2
    have hp := ax_ok_ok c5 C.X.yk hv (fun q => absurd q (by decide)) (Nat.le_refl _) (Nat.le_refl _) (C.X.hs.pk _ j hc c1)
    have hty : sx_if (Nat.beq (Nat.div (sx_slot (Nat.mod (ax_cl (sx_pl vo)).1 256) (sx_wa w)) 32) 0) (Nat.ble (sx_tg v) 1) (sx_if (Nat.beq (Nat.div (sx_slot (Nat.mod (ax_cl (sx_pl vo)).1 256) (sx_wa w)) 32) 1) (sx_and (Nat.beq (sx_tg v) 0) (Nat.ble (sx_pl v) 1)) (Nat.beq (sx_tg v) 2)) = true ∧ v < 4722366482869645213696 := by
      cases t0 : Nat.beq (Nat.div (sx_slot (Nat.mod (ax_cl (sx_pl vo)).1 256) (sx_wa w)) 32) 0 with
      | true =>
        rw [t0, sx_if_t] at c4
        obtain ⟨P, -, rfl⟩ := hv.toInt (sx_ble c4)
        rw [sx_if_t, ax_tg_i]
        exact ⟨rfl, by have := ax_i_lt P; omega⟩
      | false =>
        rw [t0, sx_if_f] at c4
        rw [sx_if_f]
        cases t1 : Nat.beq (Nat.div (sx_slot (Nat.mod (ax_cl (sx_pl vo)).1 256) (sx_wa w)) 32) 1 with
        | true =>
          rw [t1, sx_if_t] at c4
          obtain ⟨P, jv, rfl⟩ := hv.toInt (ax_in_tag c4)
          have b := ax_in_ok c4 C.X.yk jv
          obtain ⟨p, hp1, -, hp⟩ := ax_b_pos (P := P) b.1
          rw [sx_if_t, ax_tg_i, ax_pl_i, hp1, show Nat.ble p 1 = true from Nat.ble_eq.mpr (by omega)]
          exact ⟨rfl, by have := ax_i_lt P; omega⟩
        | false =>
          rw [t1, sx_if_f] at c4
          rw [sx_if_f]
          have c4' : a % 8 = 2 := sx_beq c4
          obtain ⟨k, rfl⟩ := hv.toRef (by omega) (by omega)
          exact ⟨c4, k.2.2.1⟩
    have hvl := hty.2
    refine C.go h4 (fun _ h => h) List.prefix_rfl (cs' := cs) (ss' := ss) (hh' := sx_wr hh (sx_pl vo) ((ax_cl (sx_pl vo)).1, sx_set (sx_rd hh (sx_pl vo)).2 j v)) ?_ C.HL H2 (fun ih => ?_)
    · have hm := ax_wr_mm (lo := j) (hi := j) (hd := (ax_cl (sx_pl vo)).1) C.X.mm C.X.yk hvl hc (Nat.le_refl _) (Nat.le_refl _)
      exact ⟨C.X.yk, C.X.fk, ax_wr_cons hm hc c1 (ax_J_n (by omega)) (fun _ => rfl) (by rw [ax_wr_at hvl]; exact hv), ax_wr_hs C.X.hs hvl hc hp, ax_wr_fr C.X.fr hvl hc c2 ck (Nat.le_refl _) (Nat.le_refl _) (fun _ => rfl) (fun e => by subst e; obtain ⟨P, jP, rfl⟩ := hv.toInt (by decide); exact (jP.i0 rfl).1.symm), C.X.nv, C.X.r1, C.X.r2, C.X.r3, C.X.r4⟩
    · rw [cx_b10 hop]; unfold sx_oPut
      rw [cx_p1, cx_p1, cx_ref ht hc, sx_if_t, C.X.hs.rd hc, sx_fo_eq, c0, sx_if_f, hty.1, sx_if_t, sx_blt_t hvl, sx_if_t, sx_fo_eq, hjd, sx_wrK_eq, sx_fo_eq]
theorem ax_ix_ok {i vi len : Nat} {K : Nat → Nat → Nat → ax_R} (h : ax_ix Y n i len K = some outs) (hY : ax_Yk ρ Y n) (hv : ax_V ρ i vi) : ∃ P i' lo hi j, vi = sx_i P ∧ P.toBitVec.toNat = j ∧ sx_b P = 2147483648 + j ∧ ax_J ρ i' (2147483648 + j) ∧ lo ≤ j ∧ j ≤ hi ∧ hi < len ∧ K i' lo hi = some outs := by
  unfold ax_ix at h
  rcases ax_nm_V h hY hv with ⟨-, P, i', rfl, jj, h1⟩ | ⟨t, h1⟩
  · obtain ⟨lo, hi, h2, b1, b2⟩ := ax_rg_h h1 hY jj
    obtain ⟨c, h3⟩ := ax_if0 h2
    obtain ⟨c1, c2⟩ := sx_and_ok c
    have c1 := sx_ble c1
    have c2 : hi < 2147483648 + len := sx_blt c2
    rw [sx_fo_eq, sx_fo_eq] at h3
    obtain ⟨j, hj1, -, hj⟩ := ax_b_pos (P := P) (by omega)
    exact ⟨P, i', _, _, j, rfl, hj1, hj, by rw [← hj]; exact jj, by show lo - 2147483648 ≤ j; omega, by show j ≤ hi - 2147483648; omega, by show hi - 2147483648 < len; omega, h3⟩
  · have := ax_rg_tag h1
    omega
theorem ax_ord_mono {lo hi j x y z : Nat} (h1 : lo ≤ j) (h2 : j ≤ hi) (hx : sx_nth sx_ordv lo = some x) (hy : sx_nth sx_ordv hi = some y) (hz : sx_nth sx_ordv j = some z) : x ≤ z ∧ z ≤ y := by
  have t : (List.range 9).all (fun hi => (List.range (hi + 1)).all (fun j => (List.range (j + 1)).all (fun lo => decide (sx_ordv.getD lo 0 ≤ sx_ordv.getD j 0 ∧ sx_ordv.getD j 0 ≤ sx_ordv.getD hi 0)))) = true := by decide +kernel
  rw [sx_nth_eq] at hx hy hz
  have l : hi < 9 := (List.getElem?_eq_some_iff.mp hy).1
  have := of_decide_eq_true (List.all_eq_true.mp (List.all_eq_true.mp (List.all_eq_true.mp t hi (List.mem_range.mpr l)) j (List.mem_range.mpr (by omega))) lo (List.mem_range.mpr (by omega)))
  rw [List.getD_eq_getElem?_getD, List.getD_eq_getElem?_getD, List.getD_eq_getElem?_getD, hx, hy, hz] at this
  exact this
theorem ax_ord_lt {j z : Nat} (h : sx_nth sx_ordv j = some z) : z ≤ 40320 := by
  rw [sx_nth_eq] at h
  have hm := List.mem_of_getElem? h
  have t : sx_ordv.all (fun z => decide (z ≤ 40320)) = true := by decide +kernel
  exact of_decide_eq_true (List.all_eq_true.mp t z hm)
theorem ax_i_n {z : Nat} (h : z < 4294967296) : Nat.mul 8 z = sx_i (Int32.ofNat z) := by rw [ax_i_eq, ax_on_tn h]; rfl
theorem ax_b_n {z : Nat} (h : z < 2147483648) : sx_b (Int32.ofNat z) = 2147483648 + z := by rw [ax_b_tn, ax_on_tn (by omega)]; omega
theorem ax_s11 (hG : ax_Gk W g) (C : ax_Cx W ih d D mi cd lst pc w L S M F Y n th ρ outs hh cs ss cL cS Post) (hop : sx_op w = 11) (h : ax_oIald ih g d mi cd lst pc L S M F Y n th = some outs) : cx_G W D mi cd pc cL cS hh cs ss Post := by
  unfold ax_oIald at h
  obtain ⟨i, r1, vi, cr1, e1, f1, g1, hi, H1⟩ := ax_pop h C.HS
  obtain ⟨a, r2, va, cr2, e2, f2, g2, ha, H2⟩ := ax_pop g1 H1
  subst e2 f2 e1 f1
  rcases ax_if g2 with ⟨c, h2⟩ | ⟨c, h2⟩
  · obtain ⟨rfl, hc, ht⟩ := ax_ref2 ha c
    rw [ax_gK_eq] at h2
    obtain ⟨c1, h3⟩ := ax_if0 h2
    obtain ⟨P, i', lo, hiX, j, rfl, p1, p2, p3, p4, p5, p6, h4⟩ := ax_ix_ok h3 C.X.yk hi
    rw [sx_fo_eq] at h4
    have c1' : (ax_cl (sx_pl va)).1 % 256 = 100 := sx_beq c1
    have p6 : hiX < (ax_cl (sx_pl va)).1 / 256 := p6
    have har : ax_ar (sx_pl va) = true := by
      unfold ax_ar
      rw [show Nat.mod (ax_cl (sx_pl va)).1 256 = 100 from c1']; rfl
    have R := ax_ld_ok h4 C.X.yk C.X.mm C.X.hs hc (by omega) p3 (fun q => by rw [har] at q; cases q) p4 p5 (fun _ => c1')
    refine C.red R H2 (fun ih => ?_)
    have na : ¬ va = 13 := fun q => by rw [q] at ht; cases ht
    rw [cx_b11 hop]; unfold sx_oIald
    rw [cx_p1, cx_p1, sx_beq_e na, sx_if_f]
    unfold sx_oAld
    rw [cx_p1, cx_p1, cx_ref ht hc, sx_if_t, cx_ix, C.X.hs.rd hc, c1, p1, sx_blt_t (show j < Nat.div (ax_cl (sx_pl va)).1 256 by show j < (ax_cl (sx_pl va)).1 / 256; omega), cx_at, sx_if_t, sx_fo_eq, sx_fo_eq, sx_beq_t rfl, sx_if_t]
  · rcases ax_if h2 with ⟨c1, h3⟩ | ⟨c1, h3⟩
    · have c1' := sx_beq c1
      subst c1'
      obtain ⟨-, rfl⟩ := ha.toRef (by decide) (by decide)
      obtain ⟨P, i', lo, hiX, j, rfl, p1, p2, p3, p4, p5, p6, h4⟩ := ax_ix_ok h3 C.X.yk hi
      obtain ⟨x, hx, h5⟩ := ax_opt_h h4
      obtain ⟨y, hy, h6⟩ := ax_opt_h h5
      have l9 : j < sx_ordv.length := by show j < 9; omega
      have hz : sx_nth sx_ordv j = some sx_ordv[j] := by rw [sx_nth_eq]; exact List.getElem?_eq_getElem l9
      obtain ⟨m1, m2⟩ := ax_ord_mono p4 p5 hx hy hz
      have zl := ax_ord_lt hz
      have ez := ax_b_n (z := sx_ordv[j]) (by omega)
      refine C.got (P := Int32.ofNat sx_ordv[j]) (ax_fn_plain h6 C.X.yk (by rw [ez]; show 2147483648 + x ≤ _; omega) (by rw [ez]; show _ ≤ 2147483648 + y; omega) (sx_b_lt _)) H2 (fun ih => ?_)
      rw [cx_b11 hop]; unfold sx_oIald
      rw [cx_p1, cx_p1, c1, sx_if_t, cx_ix, p1, hz]
      show sx_fo _ _ = _
      rw [sx_fo_eq, sx_fo_eq, ax_i_n (by omega)]
    · obtain ⟨c2, h4⟩ := ax_if0 h3
      have c2' := sx_beq c2
      subst c2'
      obtain ⟨-, rfl⟩ := ha.toRef (by decide) (by decide)
      rcases ax_nm_V h4 C.X.yk hi with ⟨-, P, i', rfl, jj, h5⟩ | ⟨t, h5⟩
      · obtain ⟨c3, h6⟩ := ax_if0 h5
        obtain ⟨c3, c4⟩ := sx_and_ok c3
        obtain ⟨c4, c5⟩ := sx_and_ok c4
        rw [hG.nv] at c3 c5
        have nv := C.X.nv (sx_beq c3)
        have b := ax_in_ok c4 C.X.yk jj
        have le := ax_le_ok C.X.yk C.X.fk jj nv c5
        obtain ⟨j, j1, -, j2⟩ := ax_b_pos (P := P) b.1
        rw [j2] at jj
        have hjN : j < W.N := by omega
        obtain ⟨Q, e, s1, s2, s3⟩ := C.wk.scr j hjN
        have hb : ∀ ih, sx_body ih W.N w D mi cd [] pc cL (sx_i P :: 5 :: cr2) hh 160 W.sy cs ss = ih D mi cd [] false (Nat.succ pc) cL (sx_i Q :: cr2) hh 160 W.sy cs ss := fun ih => by
          rw [cx_b11 hop]; unfold sx_oIald
          rw [cx_p1, cx_p1, c1, sx_if_f]
          unfold sx_oAld
          rw [cx_p1, cx_p1, show sx_and (Nat.beq (sx_tg 5) 2) (Nat.blt (sx_pl 5) 160) = false from rfl, sx_if_f, show sx_and (Nat.beq 5 5) (Nat.beq 100 100) = true from rfl, sx_if_t, cx_ix, j1, sx_blt_t hjN, sx_if_t]
          unfold sx_nm
          have t1 : sx_tg (Nat.succ (Nat.mul 8 j)) = 1 := by show (8 * j + 1) % 8 = 1; omega
          have t2 : sx_pl (Nat.succ (Nat.mul 8 j)) = j := by show (8 * j + 1) / 8 = j; omega
          rw [t1, sx_beq_t rfl, sx_if_t, t2, sx_nth_eq, s1]
          show sx_if (Nat.beq e.1 e.2.1) _ _ = _
          rw [s2, s3, sx_beq_t rfl, sx_if_t, sx_fo_eq, sx_fo_eq]
          have e8 : Nat.mul 8 (sx_bs (sx_b Q)) = sx_i Q := (ax_i_bs Q).symm
          rw [e8]
        cases hm : ax_mg M 999 i' with
        | some u =>
          rw [hm] at h6
          rcases C.X.mm _ (ax_mg_mem hm) with ⟨-, k, R, e', q1, q2, q3, q4, q5⟩ | ⟨q, -⟩
          · have q2 : ax_J ρ i' (2147483648 + k) := q2
            have := q2.uniq jj
            have ek : k = j := by omega
            subst ek
            cases q3.symm.trans s1
            have eR := sx_b_inj (q4.symm.trans s2)
            subst eR
            exact C.go0 h6 C.HL (ax_Ls.cons q5 H2) hb
          · have q : 999 < 160 := q
            omega
        | none =>
          rw [hm] at h6
          obtain ⟨v, Y', n', a1, a2, a3⟩ := ax_any_ok (r := sx_b Q) h6 C.X.yk (sx_b_lt Q)
          have hp : ρ <+: ρ ++ [sx_b Q] := List.prefix_append _ _
          refine C.go a1 (fun _ h => h) hp ((C.X.mono hp a2).m ?_) (C.HL.mono' hp) (ax_Ls.cons (ax_V.int a3) (H2.mono' hp)) hb
          intro m hm
          rcases List.mem_cons.mp hm with rfl | hm
          · exact Or.inl ⟨rfl, j, Q, e, hjN, jj.mono hp, s1, s2, ax_V.int a3⟩
          · exact C.X.mm.mono hp m hm
      · obtain ⟨c3, -⟩ := ax_if0 h5
        obtain ⟨-, c4⟩ := sx_and_ok c3
        obtain ⟨c4, -⟩ := sx_and_ok c4
        have := ax_in_tag c4
        omega
theorem ax_s12 (hG : ax_Gk W g) (C : ax_Cx W ih d D mi cd lst pc w L S M F Y n th ρ outs hh cs ss cL cS Post) (hop : sx_op w = 12) (h : ax_oIast ih g d mi cd lst pc L S M F Y n th = some outs) : cx_G W D mi cd pc cL cS hh cs ss Post := by
  unfold ax_oIast at h
  obtain ⟨b, r0, v, cr0, e0, f0, g0, hv, H0⟩ := ax_pop h C.HS
  obtain ⟨i, r1, vi, cr1, e1, f1, g1, hi, H1⟩ := ax_pop g0 H0
  obtain ⟨a, r2, va, cr2, e2, f2, g2, ha, H2⟩ := ax_pop g1 H1
  subst e2 f2 e1 f1 e0 f0
  obtain ⟨c, h2⟩ := ax_if0 g2
  obtain ⟨rfl, hc, ht⟩ := ax_ref2 ha c
  rw [ax_gK_eq] at h2
  obtain ⟨c1, h3⟩ := ax_if0 h2
  obtain ⟨P, i', lo, hiX, j, rfl, p1, p2, p3, p4, p5, p6, h4⟩ := ax_ix_ok h3 C.X.yk hi
  rw [sx_fo_eq] at h4
  obtain ⟨c2, h5⟩ := ax_if0 h4
  obtain ⟨c2, c3⟩ := sx_and_ok c2
  obtain ⟨c2, ck⟩ := sx_and_ok c2
  have c1' : (ax_cl (sx_pl va)).1 % 256 = 100 := sx_beq c1
  have p6 : hiX < (ax_cl (sx_pl va)).1 / 256 := p6
  have har : ax_ar (sx_pl va) = true := by
    unfold ax_ar
    rw [show Nat.mod (ax_cl (sx_pl va)).1 256 = 100 from c1']; rfl
  have hj : j < (ax_cl (sx_pl va)).1 / 256 := by omega
  have hp := ax_ok_ok c3 C.X.yk hv (fun _ => p3) p4 p5 (C.X.hs.pk _ j hc hj)
  obtain ⟨Q, rfl, -⟩ := ax_k100 c1' hp
  have hvl : sx_i Q < 4722366482869645213696 := by have := ax_i_lt Q; omega
  have na : ¬ (sx_pl va = 148 ∨ sx_pl va = 3 ∨ sx_pl va = 56) := fun q => by
    rcases q with q | q | q <;> rw [q] at c1' <;> exact absurd c1' (by decide +kernel)
  rw [hG.md] at c2 ck
  have c2 : ax_tb W.md (ax_bit (ax_ar (sx_pl va)) (sx_pl va) j) = true := by rw [har]; exact c2
  have hm := ax_wr_mm (lo := lo) (hi := hiX) (hd := (ax_cl (sx_pl va)).1) C.X.mm C.X.yk hvl hc p4 p5
  refine C.go h5 (fun _ h => h) List.prefix_rfl (cs' := cs) (ss' := ss) (hh' := sx_wr hh (sx_pl va) ((ax_cl (sx_pl va)).1, sx_set (sx_rd hh (sx_pl va)).2 j (sx_i Q))) ?_ C.HL H2 (fun ih => ?_)
  · refine ⟨C.X.yk, C.X.fk, ?_, ax_wr_hs C.X.hs hvl hc hp, ax_wr_fr C.X.fr hvl hc c2 ck p4 p5 (fun q => absurd q na) (fun q => by cases q), C.X.nv, C.X.r1, C.X.r2, C.X.r3, C.X.r4⟩
    cases q : Nat.beq g.2.1 0 with
    | true => exact hm
    | false => exact ax_wr_cons hm hc hj p3 (fun q => by rw [har] at q; cases q) (by rw [ax_wr_at hvl]; exact hv)
  · rw [cx_b12 hop]; unfold sx_oAst
    rw [cx_p1, cx_p1, cx_p1, cx_ref ht hc, sx_if_t, cx_ix, C.X.hs.rd hc, c1, p1, sx_blt_t (show j < Nat.div (ax_cl (sx_pl va)).1 256 from hj), cx_at, sx_if_t, sx_beq_t rfl, sx_if_t, ax_tg_i, show Nat.ble 0 1 = true from rfl, sx_if_t, sx_blt_t hvl, sx_if_t, sx_fo_eq, show Nat.beq 100 101 = false from rfl, sx_if_f, sx_wrK_eq, sx_fo_eq]
theorem ax_s13 (C : ax_Cx W ih d D mi cd lst pc w L S M F Y n th ρ outs hh cs ss cL cS Post) (hop : sx_op w = 13) (h : ax_oLald ih d mi cd lst pc L S M F Y n th = some outs) : cx_G W D mi cd pc cL cS hh cs ss Post := by
  unfold ax_oLald at h
  obtain ⟨i, r1, vi, cr1, e1, f1, g1, hi, H1⟩ := ax_pop h C.HS
  obtain ⟨a, r2, va, cr2, e2, f2, g2, ha, H2⟩ := ax_pop g1 H1
  subst e2 f2 e1 f1
  obtain ⟨c, h2⟩ := ax_if0 g2
  obtain ⟨rfl, hc, ht⟩ := ax_ref2 ha c
  rw [ax_gK_eq] at h2
  obtain ⟨c1, h3⟩ := ax_if0 h2
  obtain ⟨P, i', lo, hiX, j, rfl, p1, p2, p3, p4, p5, p6, h4⟩ := ax_ix_ok h3 C.X.yk hi
  have c1' : (ax_cl (sx_pl va)).1 % 256 = 101 := sx_beq c1
  have p6 : hiX < (ax_cl (sx_pl va)).1 / 256 := p6
  have hj : j < (ax_cl (sx_pl va)).1 / 256 := by omega
  have k := (ax_k101 c1' (C.X.hs.pk _ j hc hj)).1
  have l : sx_get (sx_rd hh (sx_pl va)).2 j < 4722366482869645213696 := sx_get_lt _ _
  refine C.go0 h4 C.HL (ax_Ls.cons (v := sx_get (sx_rd hh (sx_pl va)).2 j + 4) (Or.inr (Or.inr (Or.inr (Or.inr (Or.inl ⟨rfl, by omega, by omega⟩))))) H2) (fun ih => ?_)
  rw [cx_b13 hop]; unfold sx_oAld
  rw [cx_p1, cx_p1, cx_ref ht hc, sx_if_t, cx_ix, C.X.hs.rd hc, c1, p1, sx_blt_t (show j < Nat.div (ax_cl (sx_pl va)).1 256 from hj), cx_at, sx_if_t, sx_fo_eq, sx_fo_eq, show Nat.beq 101 100 = false from rfl, sx_if_f, sx_beq_t rfl, sx_if_t, sx_fo_eq]
theorem gx_101 {c j : Nat} (hc : c < 160) (h : (ax_cl c).1 % 256 = 101) : ax_kp c j j 1 = true := by
  have a1 : c ≠ 149 := fun e => by rw [e] at h; exact absurd h (by decide +kernel)
  unfold ax_kp
  rw [sx_beq_e a1, sx_if_f]
theorem ax_s14 (hG : ax_Gk W g) (C : ax_Cx W ih d D mi cd lst pc w L S M F Y n th ρ outs hh cs ss cL cS Post) (hop : sx_op w = 14) (h : ax_oLast ih g d mi cd lst pc L S M F Y n th = some outs) : cx_G W D mi cd pc cL cS hh cs ss Post := by
  unfold ax_oLast at h
  obtain ⟨b, r0, v, cr0, e0, f0, g0, hv, H0⟩ := ax_pop h C.HS
  obtain ⟨i, r1, vi, cr1, e1, f1, g1, hi, H1⟩ := ax_pop g0 H0
  obtain ⟨a, r2, va, cr2, e2, f2, g2, ha, H2⟩ := ax_pop g1 H1
  subst e2 f2 e1 f1 e0 f0
  obtain ⟨c, h2⟩ := ax_if0 g2
  obtain ⟨cl, c⟩ := sx_and_ok c
  obtain ⟨rfl, hc, ht⟩ := ax_ref2 ha c
  rw [ax_gK_eq] at h2
  obtain ⟨c1, h3⟩ := ax_if0 h2
  obtain ⟨c1, c2⟩ := sx_and_ok c1
  obtain ⟨P, i', lo, hiX, j, rfl, p1, p2, p3, p4, p5, p6, h4⟩ := ax_ix_ok h3 C.X.yk hi
  have c1' : (ax_cl (sx_pl va)).1 % 256 = 101 := sx_beq c1
  have p6 : hiX < (ax_cl (sx_pl va)).1 / 256 := p6
  have hj : j < (ax_cl (sx_pl va)).1 / 256 := by omega
  obtain ⟨l1, l2⟩ := hv.lg cl
  have hp := (ax_k101 c1' (C.X.hs.pk _ j hc hj)).2 (v - 4) (by omega)
  have hvl : v - 4 < 4722366482869645213696 := by omega
  have har : ax_ar (sx_pl va) = true := by
    unfold ax_ar
    rw [show Nat.mod (ax_cl (sx_pl va)).1 256 = 101 from c1']; rfl
  rw [hG.md] at c2
  have c2 : ax_tb W.md (ax_bit (ax_ar (sx_pl va)) (sx_pl va) j) = true := by rw [har]; exact c2
  refine C.go h4 (fun _ h => h) List.prefix_rfl (cs' := cs) (ss' := ss) (hh' := sx_wr hh (sx_pl va) ((ax_cl (sx_pl va)).1, sx_set (sx_rd hh (sx_pl va)).2 j (v - 4))) ?_ C.HL H2 (fun ih => ?_)
  · have ck : ax_kg W.md (sx_pl va) j j 1 = true := by
      unfold ax_kg
      rw [gx_101 hc c1']
      cases Nat.beq (Nat.mod (Nat.shiftRight W.md 5120) 2) 1 <;> rfl
    refine ⟨C.X.yk, C.X.fk, ?_, ax_wr_hs C.X.hs hvl hc hp, ax_wr_fr C.X.fr hvl hc c2 ck (Nat.le_refl _) (Nat.le_refl _) (fun _ => rfl) (fun q => by cases q), C.X.nv, C.X.r1, C.X.r2, C.X.r3, C.X.r4⟩
    exact ax_wr_mm (lo := lo) (hi := hiX) (hd := (ax_cl (sx_pl va)).1) C.X.mm C.X.yk hvl hc p4 p5
  · rw [cx_b14 hop]; unfold sx_oAst
    rw [cx_p1, cx_p1, cx_p1, cx_ref ht hc, sx_if_t, cx_ix, C.X.hs.rd hc, c1, p1, sx_blt_t (show j < Nat.div (ax_cl (sx_pl va)).1 256 from hj), cx_at, sx_if_t, show Nat.beq 101 100 = false from rfl, sx_if_f, sx_beq_t rfl, sx_if_t, sx_beq_t (show sx_tg v = 4 from l1), sx_if_t, sx_blt_t l2, sx_if_t, sx_fo_eq, sx_if_t, sx_wrK_eq, sx_fo_eq]
    rfl
end AXS3
