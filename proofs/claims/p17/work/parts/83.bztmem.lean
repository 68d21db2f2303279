/-! ax: more steps on cells, and tables of targets -/
theorem ax_tk4_ok : (List.range 256).all (fun c => decide ((ax_cl c).1 / 256 < 2147483648)) = true := by decide +kernel
theorem ax_tk4_at (c : Nat) : (ax_cl c).1 / 256 < 2147483648 := by
  have h := of_decide_eq_true (List.all_eq_true.mp ax_tk4_ok (c % 256) (List.mem_range.mpr (Nat.mod_lt _ (by decide))))
  rw [ax_cl_mod]
  exact h
theorem ax_se_eq : ∀ {a b : List ax_S}, ax_se a b = true → a = b
  | [], [], _ => rfl
  | [], _ :: _, h => by cases h
  | _ :: _, [], h => by cases h
  | x :: a, y :: b, h => by
    have h : sx_and (sx_and (Nat.beq x.1 y.1) (sx_and (Nat.beq x.2.1 y.2.1) (sx_and (Nat.beq x.2.2.1 y.2.2.1) (sx_and (Nat.beq x.2.2.2.1 y.2.2.2.1) (sx_and (Nat.beq x.2.2.2.2.1 y.2.2.2.2.1) (Nat.beq x.2.2.2.2.2 y.2.2.2.2.2)))))) (ax_se a b) = true := h
    obtain ⟨h1, h2⟩ := sx_and_ok h
    obtain ⟨k1, h1⟩ := sx_and_ok h1
    obtain ⟨k2, h1⟩ := sx_and_ok h1
    obtain ⟨k3, h1⟩ := sx_and_ok h1
    obtain ⟨k4, h1⟩ := sx_and_ok h1
    obtain ⟨k5, k6⟩ := sx_and_ok h1
    rw [ax_se_eq h2]
    obtain ⟨x1, x2, x3, x4, x5, x6⟩ := x
    obtain ⟨y1, y2, y3, y4, y5, y6⟩ := y
    have m1 : x1 = y1 := sx_beq k1
    have m2 : x2 = y2 := sx_beq k2
    have m3 : x3 = y3 := sx_beq k3
    have m4 : x4 = y4 := sx_beq k4
    have m5 : x5 = y5 := sx_beq k5
    have m6 : x6 = y6 := sx_beq k6
    rw [m1, m2, m3, m4, m5, m6]
section AXS4
variable {W : ax_W} {ih : ax_ih} {g : ax_G} {d D mi cd : Nat} {lst : List ax_I} {pc w : Nat} {L S : List Nat} {M : ax_M} {F : ax_F} {Y : ax_Y} {n th : Nat} {ρ : List Nat} {outs : List ax_O} {hh : sx_H} {cs ss : Nat} {cL cS : List Nat} {Post : sx_O → Prop}
theorem ax_s15 (C : ax_Cx W ih d D mi cd lst pc w L S M F Y n th ρ outs hh cs ss cL cS Post) (hop : sx_op w = 15) (h : ax_oAald ih d mi cd lst pc L S M F Y n th = some outs) : cx_G W D mi cd pc cL cS hh cs ss Post := by
  unfold ax_oAald at h
  obtain ⟨i, r1, vi, cr1, e1, f1, g1, hi, H1⟩ := ax_pop h C.HS
  obtain ⟨a, r2, va, cr2, e2, f2, g2, ha, H2⟩ := ax_pop g1 H1
  subst e2 f2 e1 f1
  obtain ⟨c, h2⟩ := ax_if0 g2
  obtain ⟨rfl, hc, ht⟩ := ax_ref2 ha c
  rw [ax_gK_eq] at h2
  obtain ⟨c1, h3⟩ := ax_if0 h2
  have c1' : (ax_cl (sx_pl va)).1 % 256 = 102 := sx_beq c1
  obtain ⟨P, jj, rfl⟩ := hi.toInt (ax_rg_tag h3)
  obtain ⟨Y', o', h4, hs, hY'⟩ := ax_en_ok h3 C.X.yk jj
  obtain ⟨c2, h5⟩ := ax_if0 h4
  obtain ⟨c2, c3⟩ := sx_and_ok c2
  have c2 := sx_ble c2
  have c3 : sx_b P < 2147483648 + (ax_cl (sx_pl va)).1 / 256 := sx_blt c3
  obtain ⟨j, j1, -, j2⟩ := ax_b_pos (P := P) c2
  rw [sx_fo_eq, show Nat.sub (sx_b P) 2147483648 = j by show sx_b P - 2147483648 = j; omega] at h5
  obtain ⟨s, hsg, h6⟩ := ax_opt_h h5
  obtain ⟨c4, h7⟩ := ax_if0 h6
  obtain ⟨c4, c5⟩ := sx_and_ok c4
  have c4 := sx_beq c4
  have hj : j < (ax_cl (sx_pl va)).1 / 256 := by omega
  obtain ⟨s', k1, k2⟩ := C.X.hs.pk _ j hc hj
  have es := Option.some.inj (k1.symm.trans hsg)
  subst es
  have kv : sx_get (sx_rd hh (sx_pl va)).2 j = s'.2.2.1 ∧ ax_Rk s'.2.2.1 := by
    rcases k2 with ⟨k, -⟩ | ⟨-, k⟩ | ⟨k, -⟩ | ⟨k, -⟩ | ⟨k, -⟩
    · omega
    · exact k
    all_goals omega
  have c5 : s'.2.2.1 % 8 = 2 := sx_beq c5
  refine C.go h7 hs List.prefix_rfl (C.X.yf hY' C.X.fk) C.HL (ax_Ls.cons (ax_V.ref kv.2) H2) (fun ih => ?_)
  rw [cx_b15 hop]; unfold sx_oAld
  rw [cx_p1, cx_p1, cx_ref ht hc, sx_if_t, cx_ix, C.X.hs.rd hc, c1, j1, sx_blt_t (show j < Nat.div (ax_cl (sx_pl va)).1 256 from hj), cx_at, sx_if_t, sx_fo_eq, sx_fo_eq, show Nat.beq 102 100 = false from rfl, sx_if_f, show Nat.beq 102 101 = false from rfl, sx_if_f, kv.1, sx_beq_e (show ¬ s'.2.2.1 = 0 by omega), sx_if_f]
theorem ax_s17 (hG : ax_Gk W g) (C : ax_Cx W ih d D mi cd lst pc w L S M F Y n th ρ outs hh cs ss cL cS Post) (hop : sx_op w = 17) (h : ax_oAlen ih g d mi cd lst pc L S M F Y n th = some outs) : cx_G W D mi cd pc cL cS hh cs ss Post := by
  unfold ax_oAlen at h
  obtain ⟨a, r, va, cr, e1, f1, h1, ha, H⟩ := ax_pop h C.HS
  subst e1 f1
  rcases ax_if h1 with ⟨c, h2⟩ | ⟨c, h2⟩
  · obtain ⟨rfl, hc, ht⟩ := ax_ref2 ha c
    rw [ax_gK_eq] at h2
    obtain ⟨c1, h3⟩ := ax_if0 h2
    obtain ⟨c1, c2⟩ := sx_and_ok c1
    have c2 : (ax_cl (sx_pl va)).1 < 1099511627776 := sx_blt c2
    rw [sx_fo_eq, ax_i_n (show Nat.div (ax_cl (sx_pl va)).1 256 < 4294967296 by show (ax_cl (sx_pl va)).1 / 256 < _; omega)] at h3
    refine C.go0 h3 C.HL (ax_Ls.cons (ax_V.int (ax_J.i _)) H) (fun ih => ?_)
    have nb : sx_isB va = false := by unfold sx_isB; rw [ht]; rfl
    rw [cx_b17 hop]; unfold sx_oAlenX
    rw [cx_p1, nb, sx_if_f]
    unfold sx_oAlen
    rw [cx_p1, sx_beq_e (show ¬ va = 5 from fun q => by rw [q] at ht; cases ht), sx_if_f, cx_ref ht hc, sx_if_t, C.X.hs.rd hc, c1, sx_if_t, sx_fo_eq, sx_fo_eq, ax_i_n (show Nat.div (ax_cl (sx_pl va)).1 256 < 4294967296 by show (ax_cl (sx_pl va)).1 / 256 < _; omega)]
  · rcases ax_if h2 with ⟨c1, h3⟩ | ⟨c1, h3⟩
    · obtain ⟨t, ht, h4⟩ := ax_opt_h h3
      obtain ⟨c2, h5⟩ := ax_if0 h4
      have c2 : t.length < 4294967296 := sx_blt c2
      rw [sx_fo_eq, ax_i_n c2] at h5
      obtain ⟨ca, -⟩ := sx_and_ok c1
      have ca : a % 8 = 5 := sx_beq ca
      obtain ⟨-, rfl⟩ := ha.toRef (by omega) (by omega)
      refine C.go0 h5 C.HL (ax_Ls.cons (ax_V.int (ax_J.i _)) H) (fun ih => ?_)
      rw [cx_b17 hop]; unfold sx_oAlenX
      rw [cx_p1, c1, sx_if_t, ht]
      show sx_fo _ _ = _
      rw [sx_fo_eq, sx_fo_eq, ax_i_n c2]
    · obtain ⟨c2, h4⟩ := ax_if0 h3
      obtain ⟨c2, c3⟩ := sx_and_ok c2
      have c2' := sx_beq c2
      subst c2'
      obtain ⟨-, rfl⟩ := ha.toRef (by decide) (by decide)
      rw [hG.nv] at c3 h4
      have nv := C.X.nv (sx_beq c3)
      rw [← ax_b_n C.wk.nN] at nv
      refine C.go0 h4 C.HL (ax_Ls.cons (ax_V.int nv) H) (fun ih => ?_)
      rw [cx_b17 hop]; unfold sx_oAlenX
      rw [cx_p1, c1, sx_if_f]
      unfold sx_oAlen
      rw [cx_p1, sx_beq_t rfl, sx_if_t, sx_fo_eq, ax_i_n (by have := C.wk.nN; omega)]
theorem ax_s25 (hG : ax_Gk W g) (C : ax_Cx W ih d D mi cd lst pc w L S M F Y n th ρ outs hh cs ss cL cS Post) (hop : sx_op w = 25) (h : ax_oCpy ih g d mi cd lst pc L S M F Y n th = some outs) : cx_G W D mi cd pc cL cS hh cs ss Post := by
  unfold ax_oCpy at h
  obtain ⟨ln, r0, vl, cr0, e0, f0, g0, hl, H0⟩ := ax_pop h C.HS
  obtain ⟨dp, r1, vd, cr1, e1, f1, g1, hd, H1⟩ := ax_pop g0 H0
  obtain ⟨b, r2, vb, cr2, e2, f2, g2, hb, H2⟩ := ax_pop g1 H1
  obtain ⟨sp, r3, vs, cr3, e3, f3, g3, hsp, H3⟩ := ax_pop g2 H2
  obtain ⟨a, r4, va, cr4, e4, f4, g4, ha, H4⟩ := ax_pop g3 H3
  subst e4 f4 e3 f3 e2 f2 e1 f1 e0 f0
  obtain ⟨c, h1⟩ := ax_if0 g4
  obtain ⟨x1, c2⟩ := sx_and_ok c
  obtain ⟨x2, x3⟩ := sx_and_ok x1
  obtain ⟨x4, x5⟩ := sx_and_ok x3
  obtain ⟨ca, cb⟩ := sx_and_ok c2
  have c3 := sx_beq x4
  have c4 := sx_beq x5
  subst c3 c4
  obtain ⟨rfl, hca, hta⟩ := ax_ref2 ha ca
  obtain ⟨rfl, hcb, htb⟩ := ax_ref2 hb cb
  rw [ax_gK_eq, ax_gK_eq] at h1
  obtain ⟨k, h2⟩ := ax_if0 h1
  obtain ⟨k1, k2⟩ := sx_and_ok k
  obtain ⟨k1, k3⟩ := sx_and_ok k1
  obtain ⟨k2, k4⟩ := sx_and_ok k2
  obtain ⟨k5, k6⟩ := sx_and_ok k2
  obtain ⟨k4, k7⟩ := sx_and_ok k4
  obtain ⟨k7, k8⟩ := sx_and_ok k7
  have k3' : (ax_cl (sx_pl va)).1 = (ax_cl (sx_pl vb)).1 := sx_beq k3
  have k5 : (ax_cl (sx_pl va)).2.1 = (ax_cl (sx_pl vb)).2.1 := sx_beq k5
  have k6 := ax_se_eq k6
  have k4' := sx_beq k4
  have zero : ∀ {v : Nat}, ax_V ρ 0 v → v = 0 := fun hv => by
    obtain ⟨P, jP, rfl⟩ := hv.toInt (by decide)
    exact (jP.i0 rfl).1.symm
  have vd0 := zero hd
  have vs0 := zero hsp
  subst vd0 vs0
  have l31 := ax_tk4_at (sx_pl va)
  have vle : vl = Nat.mul 8 (Nat.div (ax_cl (sx_pl va)).1 256) := by
    have t : ln % 8 = 0 := by rw [k4']; show 8 * ((ax_cl (sx_pl va)).1 / 256) % 8 = 0; omega
    obtain ⟨P, jP, rfl⟩ := hl.toInt (by omega)
    rw [← k4']
    exact (jP.i0 t).1.symm
  rw [sx_fo_eq] at h2
  have har : ax_ar (sx_pl vb) = true := by
    unfold ax_ar
    rw [← k3', show Nat.mod (ax_cl (sx_pl va)).1 256 = 100 from sx_beq k1]; rfl
  rw [hG.md] at k7 k8
  have rdn : ∀ {c' : Nat}, c' < 160 → c' ≠ sx_pl vb → sx_rd (sx_wr hh (sx_pl vb) ((ax_cl (sx_pl vb)).1, (sx_rd hh (sx_pl va)).2)) c' = sx_rd hh c' := fun h' e => sx_rd_wr_ne hh _ (by omega) (by omega) e
  refine C.go h2 (fun _ h => h) List.prefix_rfl (cs' := cs) (ss' := ss) (hh' := sx_wr hh (sx_pl vb) ((ax_cl (sx_pl vb)).1, (sx_rd hh (sx_pl va)).2)) ?_ C.HL H4 (fun ih => ?_)
  · refine ⟨C.X.yk, C.X.fk, ?_, ⟨fun c' h' => ?_, fun c' j' h' hj' => ?_⟩, ?_, C.X.nv, C.X.r1, C.X.r2, C.X.r3, C.X.r4⟩
    · intro m hm
      obtain ⟨m1, m2⟩ := ax_mf_ok C.X.yk hm
      rcases C.X.mm m m1 with q | ⟨q1, j', q2, q3, q4, q5⟩
      · exact Or.inl q
      · refine Or.inr ⟨q1, j', q2, q3, q4, ?_⟩
        by_cases e : m.1 = sx_pl vb
        · have := m2 e _ q3
          have := q3.1
          omega
        · rw [rdn q1 e]; exact q5
    · by_cases e : c' = sx_pl vb
      · rw [e, sx_rd_wr]
      · rw [rdn h' e]; exact C.X.hs.hd c' h'
    · by_cases e : c' = sx_pl vb
      · rw [e] at hj'
        rw [e, sx_rd_wr]
        obtain ⟨s, s1, s2⟩ := C.X.hs.pk (sx_pl va) j' hca (by rw [k3']; exact hj')
        exact ⟨s, by rw [← k5, ← k6]; exact s1, s2⟩
      · rw [rdn h' e]; exact C.X.hs.pk c' j' h' hj'
    · refine ⟨fun c' j' h' hj' hn => ?_, fun hg j' hj' => ?_⟩
      · by_cases e : c' = sx_pl vb
        · subst e
          rw [har] at hn
          have : ax_tb W.md (ax_bit true (sx_pl vb) j') = true := k7
          rw [this] at hn
          cases hn
        · rw [rdn h' e]; exact C.X.fr.1 c' j' h' hj' hn
      · unfold ax_kg at k8
        rw [show Nat.beq (Nat.mod (Nat.shiftRight W.md 5120) 2) 1 = false from hg, sx_if_f] at k8
        have nb : 149 ≠ sx_pl vb := fun e => by
          rw [← e] at k8
          have := ax_kp_ok k8
          omega
        rw [rdn (by decide) nb]
        exact C.X.fr.2 hg j' hj'
  · rw [cx_b25 hop]; unfold sx_oCpy
    rw [cx_p1, cx_p1, cx_p1, cx_p1, cx_p1, show Nat.ble (List.length cr4) 40 = true by rw [H4.len]; exact x2, cx_ref hta hca, cx_ref htb hcb, show sx_and (sx_and true (sx_and (Nat.beq 0 0) (Nat.beq 0 0))) (sx_and true true) = true from rfl, sx_if_t, C.X.hs.rd hca, C.X.hs.rd hcb, k1, k3, sx_blt_t (show Nat.div (ax_cl (sx_pl va)).1 256 < 2147483648 from l31), vle, sx_beq_t (rfl : Nat.mul 8 (Nat.div (ax_cl (sx_pl va)).1 256) = Nat.mul 8 (Nat.div (ax_cl (sx_pl va)).1 256)), show sx_and (sx_and true true) (sx_and true true) = true from rfl, sx_if_t, sx_wrK_eq, sx_fo_eq]
theorem ax_s37 (C : ax_Cx W ih d D mi cd lst pc w L S M F Y n th ρ outs hh cs ss cL cS Post) (hop : sx_op w = 37) (h : ax_oSw ih w d mi cd lst L S M F Y n th = some outs) : cx_G W D mi cd pc cL cS hh cs ss Post := by
  unfold ax_oSw at h
  obtain ⟨a, r, v, cr, e1, f1, h1, hv, H⟩ := ax_pop h C.HS
  subst e1 f1
  obtain ⟨q, hq, h2⟩ := ax_opt_h h1
  rcases ax_nm_V h2 C.X.yk hv with ⟨-, P, a', rfl, jj, h3⟩ | ⟨t, h3⟩
  · have hb : ∀ ih, sx_body ih W.N w D mi cd [] pc cL (sx_i P :: cr) hh 160 W.sy cs ss = ih D mi cd [] false (sx_tg1 q (sx_b P)) cL cr hh 160 W.sy cs ss := fun ih => by
      rw [cx_b37 hop]; unfold sx_oSw
      rw [cx_p1, hq]
      show sx_nm _ _ _ = _
      rw [cx_nm, ax_tg_i, sx_beq_t rfl, sx_if_t, ax_bs_pl, sx_fo_eq]
    rcases ax_if h3 with ⟨c, h4⟩ | ⟨c, h4⟩
    · have c : a' % 8 = 0 := sx_beq c
      have e := (jj.i0 c).1
      rw [e, ax_bs_pl] at h4
      exact C.go0 h4 C.HL H hb
    · obtain ⟨c1, h5⟩ := ax_if0 h4
      obtain ⟨lo, hi, h6, b1, b2⟩ := ax_rg_h h5 C.X.yk jj
      obtain ⟨o1, o2, a1, a2, rfl⟩ := ax_app_ok h6
      obtain ⟨o3, o4, a3, a4, rfl⟩ := ax_app_ok a2
      have go : ∀ {p : Nat} {Y' : ax_Y} {o' : List ax_O}, ax_on ih d mi cd lst th p L r M F Y' n = some o' → (∀ o ∈ o', o ∈ o1 ++ (o3 ++ o4)) → ax_Yk ρ Y' n → p = sx_tg1 q (sx_b P) → cx_G W D mi cd pc cL (sx_i P :: cr) hh cs ss Post := by
        intro p Y' o' k1 k2 k3 k4
        subst k4
        exact C.go k1 k2 List.prefix_rfl (C.X.yf k3 C.X.fk) C.HL H hb
      by_cases d1 : sx_b P < q.2.1
      · rw [sx_beq_e (show ¬ q.2.1 = 0 by omega), sx_if_f] at a1
        obtain ⟨Y', k1, k2⟩ := ax_rv_ok a1 C.X.yk jj b1 (by show sx_b P ≤ q.2.1 - 1; omega)
        refine go k1 (fun o ho => List.mem_append_left _ ho) k2 ?_
        unfold sx_tg1
        rw [sx_ble_e (by omega), sx_if_f]
      · by_cases d2 : q.2.1 + q.2.2.1.length ≤ sx_b P
        · obtain ⟨Y', k1, k2⟩ := ax_rv_ok a3 C.X.yk jj (by exact d2) b2
          refine go k1 (fun o ho => List.mem_append_right _ (List.mem_append_left _ ho)) k2 ?_
          unfold sx_tg1
          rw [show Nat.ble q.2.1 (sx_b P) = true from Nat.ble_eq.mpr (by omega), sx_if_t, sx_nth_eq, List.getElem?_eq_none (by show q.2.2.1.length ≤ sx_b P - q.2.1; omega)]
        · obtain ⟨o', k0, ks⟩ := ax_en_aux (i := sx_b P - q.2.1) a4 (by omega)
          rw [sx_fo_eq, show Nat.add q.2.1 (sx_b P - q.2.1) = sx_b P by show q.2.1 + (sx_b P - q.2.1) = sx_b P; omega] at k0
          obtain ⟨Y', k1, k2⟩ := ax_rv_ok k0 C.X.yk jj (Nat.le_refl _) (Nat.le_refl _)
          exact go k1 (fun o ho => List.mem_append_right _ (List.mem_append_right _ (ks o ho))) k2 rfl
  · rcases ax_if h3 with ⟨c, -⟩ | ⟨c, h4⟩
    · have c : a % 8 = 0 := sx_beq c
      omega
    · obtain ⟨c, -⟩ := ax_if0 h4
      have c : a % 8 = 1 := sx_beq c
      omega
end AXS4
