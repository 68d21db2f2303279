/-! ax: the simple steps are right -/
def ax_Cx (W : ax_W) (ih : ax_ih) (d D mi cd : Nat) (lst : List ax_I) (pc w : Nat) (L S : List Nat) (M : ax_M) (F : ax_F) (Y : ax_Y) (n th : Nat) (ρ : List Nat) (outs : List ax_O) (hh : sx_H) (cs ss : Nat) (cL cS : List Nat) (Post : sx_O → Prop) : Prop := (ax_Wk W) ∧ (ax_Ok W ih) ∧ (d ≤ D) ∧ (ax_X W ρ M F Y n th hh cs ss) ∧ (ax_Ls ρ L cL) ∧ (ax_Ls ρ S cS) ∧ (ax_Pq W ρ outs Post) ∧ (ax_Hq W D mi cd ρ lst Post) ∧ (sx_ft cd pc = w) ∧ (sx_wh w = 0)
theorem ax_Cx.wk {W : ax_W} {ih : ax_ih} {d D mi cd : Nat} {lst : List ax_I} {pc w : Nat} {L S : List Nat} {M : ax_M} {F : ax_F} {Y : ax_Y} {n th : Nat} {ρ : List Nat} {outs : List ax_O} {hh : sx_H} {cs ss : Nat} {cL cS : List Nat} {Post : sx_O → Prop} (q : ax_Cx W ih d D mi cd lst pc w L S M F Y n th ρ outs hh cs ss cL cS Post) : ax_Wk W := q.1
theorem ax_Cx.ok {W : ax_W} {ih : ax_ih} {d D mi cd : Nat} {lst : List ax_I} {pc w : Nat} {L S : List Nat} {M : ax_M} {F : ax_F} {Y : ax_Y} {n th : Nat} {ρ : List Nat} {outs : List ax_O} {hh : sx_H} {cs ss : Nat} {cL cS : List Nat} {Post : sx_O → Prop} (q : ax_Cx W ih d D mi cd lst pc w L S M F Y n th ρ outs hh cs ss cL cS Post) : ax_Ok W ih := q.2.1
theorem ax_Cx.dd {W : ax_W} {ih : ax_ih} {d D mi cd : Nat} {lst : List ax_I} {pc w : Nat} {L S : List Nat} {M : ax_M} {F : ax_F} {Y : ax_Y} {n th : Nat} {ρ : List Nat} {outs : List ax_O} {hh : sx_H} {cs ss : Nat} {cL cS : List Nat} {Post : sx_O → Prop} (q : ax_Cx W ih d D mi cd lst pc w L S M F Y n th ρ outs hh cs ss cL cS Post) : d ≤ D := q.2.2.1
theorem ax_Cx.X {W : ax_W} {ih : ax_ih} {d D mi cd : Nat} {lst : List ax_I} {pc w : Nat} {L S : List Nat} {M : ax_M} {F : ax_F} {Y : ax_Y} {n th : Nat} {ρ : List Nat} {outs : List ax_O} {hh : sx_H} {cs ss : Nat} {cL cS : List Nat} {Post : sx_O → Prop} (q : ax_Cx W ih d D mi cd lst pc w L S M F Y n th ρ outs hh cs ss cL cS Post) : ax_X W ρ M F Y n th hh cs ss := q.2.2.2.1
theorem ax_Cx.HL {W : ax_W} {ih : ax_ih} {d D mi cd : Nat} {lst : List ax_I} {pc w : Nat} {L S : List Nat} {M : ax_M} {F : ax_F} {Y : ax_Y} {n th : Nat} {ρ : List Nat} {outs : List ax_O} {hh : sx_H} {cs ss : Nat} {cL cS : List Nat} {Post : sx_O → Prop} (q : ax_Cx W ih d D mi cd lst pc w L S M F Y n th ρ outs hh cs ss cL cS Post) : ax_Ls ρ L cL := q.2.2.2.2.1
theorem ax_Cx.HS {W : ax_W} {ih : ax_ih} {d D mi cd : Nat} {lst : List ax_I} {pc w : Nat} {L S : List Nat} {M : ax_M} {F : ax_F} {Y : ax_Y} {n th : Nat} {ρ : List Nat} {outs : List ax_O} {hh : sx_H} {cs ss : Nat} {cL cS : List Nat} {Post : sx_O → Prop} (q : ax_Cx W ih d D mi cd lst pc w L S M F Y n th ρ outs hh cs ss cL cS Post) : ax_Ls ρ S cS := q.2.2.2.2.2.1
theorem ax_Cx.Pq {W : ax_W} {ih : ax_ih} {d D mi cd : Nat} {lst : List ax_I} {pc w : Nat} {L S : List Nat} {M : ax_M} {F : ax_F} {Y : ax_Y} {n th : Nat} {ρ : List Nat} {outs : List ax_O} {hh : sx_H} {cs ss : Nat} {cL cS : List Nat} {Post : sx_O → Prop} (q : ax_Cx W ih d D mi cd lst pc w L S M F Y n th ρ outs hh cs ss cL cS Post) : ax_Pq W ρ outs Post := q.2.2.2.2.2.2.1
theorem ax_Cx.Hq {W : ax_W} {ih : ax_ih} {d D mi cd : Nat} {lst : List ax_I} {pc w : Nat} {L S : List Nat} {M : ax_M} {F : ax_F} {Y : ax_Y} {n th : Nat} {ρ : List Nat} {outs : List ax_O} {hh : sx_H} {cs ss : Nat} {cL cS : List Nat} {Post : sx_O → Prop} (q : ax_Cx W ih d D mi cd lst pc w L S M F Y n th ρ outs hh cs ss cL cS Post) : ax_Hq W D mi cd ρ lst Post := q.2.2.2.2.2.2.2.1
theorem ax_Cx.hw {W : ax_W} {ih : ax_ih} {d D mi cd : Nat} {lst : List ax_I} {pc w : Nat} {L S : List Nat} {M : ax_M} {F : ax_F} {Y : ax_Y} {n th : Nat} {ρ : List Nat} {outs : List ax_O} {hh : sx_H} {cs ss : Nat} {cL cS : List Nat} {Post : sx_O → Prop} (q : ax_Cx W ih d D mi cd lst pc w L S M F Y n th ρ outs hh cs ss cL cS Post) : sx_ft cd pc = w := q.2.2.2.2.2.2.2.2.1
theorem ax_Cx.wh {W : ax_W} {ih : ax_ih} {d D mi cd : Nat} {lst : List ax_I} {pc w : Nat} {L S : List Nat} {M : ax_M} {F : ax_F} {Y : ax_Y} {n th : Nat} {ρ : List Nat} {outs : List ax_O} {hh : sx_H} {cs ss : Nat} {cL cS : List Nat} {Post : sx_O → Prop} (q : ax_Cx W ih d D mi cd lst pc w L S M F Y n th ρ outs hh cs ss cL cS Post) : sx_wh w = 0 := q.2.2.2.2.2.2.2.2.2
section AXS
variable {W : ax_W} {ih : ax_ih} {g : ax_G} {d D mi cd : Nat} {lst : List ax_I} {pc w : Nat} {L S : List Nat} {M : ax_M} {F : ax_F} {Y : ax_Y} {n th : Nat} {ρ : List Nat} {outs : List ax_O} {hh : sx_H} {cs ss : Nat} {cL cS : List Nat} {Post : sx_O → Prop}
theorem ax_Cx.go (C : ax_Cx W ih d D mi cd lst pc w L S M F Y n th ρ outs hh cs ss cL cS Post) {p th' n' cs' ss' : Nat} {L' S' cL' cS' : List Nat} {M' : ax_M} {F' : ax_F} {Y' : ax_Y} {ρ' : List Nat} {outs' : List ax_O} {hh' : sx_H}
    (h : ax_on ih d mi cd lst th' p L' S' M' F' Y' n' = some outs') (hs : ∀ o ∈ outs', o ∈ outs) (hp : ρ <+: ρ') (X' : ax_X W ρ' M' F' Y' n' th' hh' cs' ss') (HL' : ax_Ls ρ' L' cL') (HS' : ax_Ls ρ' S' cS')
    (hb : ∀ ih, sx_body ih W.N w D mi cd [] pc cL cS hh 160 W.sy cs ss = ih D mi cd [] false p cL' cS' hh' 160 W.sy cs' ss') : cx_G W D mi cd pc cL cS hh cs ss Post :=
  cx_step C.hw C.wh (ax_go C.ok C.dd C.Pq C.Hq h hs hp X' HL' HS') hb
/-- nothing but places, locals and stack -/
theorem ax_Cx.go0 (C : ax_Cx W ih d D mi cd lst pc w L S M F Y n th ρ outs hh cs ss cL cS Post) {p : Nat} {L' S' cL' cS' : List Nat}
    (h : ax_on ih d mi cd lst th p L' S' M F Y n = some outs) (HL' : ax_Ls ρ L' cL') (HS' : ax_Ls ρ S' cS')
    (hb : ∀ ih, sx_body ih W.N w D mi cd [] pc cL cS hh 160 W.sy cs ss = ih D mi cd [] false p cL' cS' hh 160 W.sy cs ss) : cx_G W D mi cd pc cL cS hh cs ss Post :=
  C.go h (fun _ h => h) List.prefix_rfl C.X HL' HS' hb
theorem ax_pop {K : Nat → List Nat → ax_R} (h : ax_p1 S K = some outs) (HS : ax_Ls ρ S cS) : ∃ a r v cr, S = a :: r ∧ cS = v :: cr ∧ K a r = some outs ∧ ax_V ρ a v ∧ ax_Ls ρ r cr := by
  obtain ⟨a, r, rfl, h⟩ := ax_p1_h h
  obtain ⟨v, cr, rfl, hv, HS⟩ := HS.c
  exact ⟨a, r, v, cr, rfl, rfl, h, hv, HS⟩
theorem ax_ty_ok {t a v : Nat} (h : ax_V ρ a v) (c : ax_ty t a = true) : sx_ty t v = true := by
  unfold ax_ty at c
  unfold sx_ty
  cases h0 : Nat.beq t 0 with
  | true =>
    rw [h0, sx_if_t] at c
    rw [sx_if_t]
    obtain ⟨P, -, rfl⟩ := h.toInt (sx_ble c)
    rw [ax_tg_i]; rfl
  | false =>
    rw [h0, sx_if_f] at c
    rw [sx_if_f]
    cases h1 : Nat.beq t 1 with
    | true =>
      rw [h1, sx_if_t] at c
      rw [sx_if_t]
      have : a % 8 = 2 ∨ a % 8 = 5 := by
        rcases ax_or c with q | q
        · exact Or.inl (sx_beq q)
        · exact Or.inr (sx_beq q)
      obtain ⟨-, rfl⟩ := h.toRef (by omega) (by omega)
      exact c
    | false =>
      rw [h1, sx_if_f] at c
      rw [sx_if_f]
      exact sx_beq_t (h.lg c).1
theorem ax_wc_lt (cd pc : Nat) : sx_wc (sx_ft cd pc) < 2199023255552 := by
  have h : sx_ft cd pc < 1208925819614629174706176 := Nat.mod_lt _ (by decide)
  show sx_ft cd pc / 549755813888 < _
  omega
theorem ax_kc_ok {v : Nat} (hv : v < 4722366482869645213696) (h : ax_kc v = true) : ax_V ρ v v := by
  unfold ax_kc at h
  cases h0 : Nat.beq (sx_tg v) 0 with
  | true =>
    rw [h0, sx_if_t] at h
    have h0 : v % 8 = 0 := sx_beq h0
    have h : v < 34359738368 := sx_blt h
    have e : v = sx_i (Int32.ofNat (v / 8)) := by
      rw [ax_i_eq, ax_on_tn (by omega)]; omega
    rw [e]
    exact ax_V.int (ax_J.i _)
  | false =>
    rw [h0, sx_if_f] at h
    have h0 : ¬ v % 8 = 0 := sx_beq_f h0
    cases h2 : Nat.beq (sx_tg v) 2 with
    | true =>
      rw [h2, sx_if_t] at h
      have h2 : v % 8 = 2 := sx_beq h2
      have h : v / 8 < 160 := sx_blt h
      exact ax_V.ref ⟨by omega, by omega, hv, fun _ => h⟩
    | false =>
      rw [h2, sx_if_f] at h
      have h2 : ¬ v % 8 = 2 := sx_beq_f h2
      rcases ax_or h with q | q
      · have q := sx_beq q
        subst q
        exact Or.inr (Or.inr (Or.inr (Or.inl ⟨rfl, rfl⟩)))
      · obtain ⟨q1, q2⟩ := sx_and_ok q
        have q1 : 3 ≤ v % 8 := sx_ble q1
        have q2 : v % 8 ≤ 6 := sx_ble q2
        exact ax_V.ref ⟨by omega, q2, hv, fun q => by omega⟩
theorem ax_pv_ok {a : Nat} (HL : ax_Ls ρ L cL) (h : ax_pv L a = true) : sx_if (Nat.beq a 0) true (!Nat.beq (sx_tg (sx_ln cL (Nat.pred a))) 4) = true := by
  unfold ax_pv at h
  cases h0 : Nat.beq a 0 with
  | true => rfl
  | false =>
    rw [h0, sx_if_f] at h
    rw [sx_if_f]
    have := (HL.ln (Nat.pred a)).nl h
    rw [sx_beq_e (show ¬ sx_tg (sx_ln cL (Nat.pred a)) = 4 from this)]
    rfl
theorem ax_s1 (C : ax_Cx W ih d D mi cd lst pc w L S M F Y n th ρ outs hh cs ss cL cS Post) (hop : sx_op w = 1) (h : ax_oConst ih w d mi cd lst pc L S M F Y n th = some outs) : cx_G W D mi cd pc cL cS hh cs ss Post := by
  unfold ax_oConst at h
  rw [sx_fo_eq] at h
  obtain ⟨c, h⟩ := ax_if0 h
  have hl := ax_wc_lt cd pc
  rw [C.hw] at hl
  refine C.go0 h C.HL (ax_Ls.cons (ax_kc_ok (by omega) c) C.HS) (fun ih => ?_)
  rw [cx_b1 hop]; unfold sx_oConst; rw [sx_fo_eq, sx_fo_eq]
theorem ax_s34 (C : ax_Cx W ih d D mi cd lst pc w L S M F Y n th ρ outs hh cs ss cL cS Post) (hop : sx_op w = 34) (h : ax_oGets ih w d mi cd lst pc L S M F Y n th = some outs) : cx_G W D mi cd pc cL cS hh cs ss Post := by
  unfold ax_oGets at h
  rw [sx_fo_eq] at h
  obtain ⟨c, h⟩ := ax_if0 h
  have hl := ax_wc_lt cd pc
  rw [C.hw] at hl
  refine C.go0 h C.HL (ax_Ls.cons (ax_kc_ok (by omega) c) C.HS) (fun ih => ?_)
  rw [cx_b34 hop]; unfold sx_oGets; rw [sx_fo_eq, sx_fo_eq]
theorem ax_s2 (C : ax_Cx W ih d D mi cd lst pc w L S M F Y n th ρ outs hh cs ss cL cS Post) (hop : sx_op w = 2) (h : ax_oLoad ih w d mi cd lst pc L S M F Y n th = some outs) : cx_G W D mi cd pc cL cS hh cs ss Post := by
  unfold ax_oLoad at h
  rw [sx_fo_eq] at h
  obtain ⟨c, h⟩ := ax_if0 h
  have hv := C.HL.ln (sx_wa w)
  refine C.go0 h C.HL (ax_Ls.cons hv C.HS) (fun ih => ?_)
  rw [cx_b2 hop]; unfold sx_oLoad; rw [sx_fo_eq, ax_ty_ok hv c, sx_if_t, sx_fo_eq]
theorem ax_s3 (C : ax_Cx W ih d D mi cd lst pc w L S M F Y n th ρ outs hh cs ss cL cS Post) (hop : sx_op w = 3) (h : ax_oStore ih w d mi cd lst pc L S M F Y n th = some outs) : cx_G W D mi cd pc cL cS hh cs ss Post := by
  unfold ax_oStore at h
  obtain ⟨a, r, rfl, h⟩ := ax_p1_h h
  obtain ⟨v, cr, rfl, hv, HS⟩ := C.HS.c
  obtain ⟨c, h⟩ := ax_if0 h
  obtain ⟨c1, c2⟩ := sx_and_ok c
  have c2 := ax_pv_ok C.HL c2
  rcases ax_if h with ⟨c3, h⟩ | ⟨c3, h⟩
  · obtain ⟨c4, h⟩ := ax_if0 h
    rw [sx_stK_eq, sx_stK_eq] at h
    refine C.go0 h ((C.HL.set hv _).set ax_V.seven _) HS (fun ih => ?_)
    rw [cx_b3 hop]; unfold sx_oStore
    show sx_if _ _ _ = _
    rw [ax_ty_ok hv c1, sx_if_t, c2, sx_if_t, sx_fo_eq, c3, sx_if_t, C.HL.len, c4, sx_if_t, sx_stK_eq, sx_stK_eq]
  · obtain ⟨c4, h⟩ := ax_if0 h
    rw [sx_stK_eq] at h
    refine C.go0 h (C.HL.set hv _) HS (fun ih => ?_)
    rw [cx_b3 hop]; unfold sx_oStore
    show sx_if _ _ _ = _
    rw [ax_ty_ok hv c1, sx_if_t, c2, sx_if_t, sx_fo_eq, c3, sx_if_f, C.HL.len, c4, sx_if_t, sx_stK_eq]
theorem ax_ii_ok {x y a b : Nat} (hx : ax_V ρ x a) (hy : ax_V ρ y b) (h : ax_ii x y = true) : ∃ P Q, ax_J ρ x (sx_b P) ∧ ax_J ρ y (sx_b Q) ∧ a = sx_i P ∧ b = sx_i Q := by
  obtain ⟨h1, h2⟩ := sx_and_ok h
  obtain ⟨P, p1, p2⟩ := hx.toInt (sx_ble h1)
  obtain ⟨Q, q1, q2⟩ := hy.toInt (sx_ble h2)
  exact ⟨P, Q, p1, q1, p2, q2⟩
theorem ax_s4 (C : ax_Cx W ih d D mi cd lst pc w L S M F Y n th ρ outs hh cs ss cL cS Post) (hop : sx_op w = 4) (h : ax_oBin ih w d mi cd lst pc L S M F Y n th = some outs) : cx_G W D mi cd pc cL cS hh cs ss Post := by
  unfold ax_oBin at h
  obtain ⟨y, r1, vy, cr1, e1, f1, g1, hy, H1⟩ := ax_pop h C.HS
  obtain ⟨x, r2, vx, cr2, e2, f2, g2, hx, H2⟩ := ax_pop g1 H1
  subst e2 f2 e1 f1
  obtain ⟨c, h⟩ := ax_if0 g2
  obtain ⟨c1, c2⟩ := sx_and_ok c
  obtain ⟨P, Q, jx, jy, rfl, rfl⟩ := ax_ii_ok hx hy c2
  obtain ⟨⟨ρ', v, Y', n', o', h1, h2, h3, h4, h5⟩, hq⟩ := ax_bin_ok (sx_ble c1) h C.X.yk C.X.fk jx jy
  refine C.go h1 h2 h3 (C.X.mono h3 h4) (C.HL.mono' h3) (ax_Ls.cons (ax_V.int h5) (H2.mono' h3)) (fun ih => ?_)
  rw [cx_b4 hop]; unfold sx_oBin
  show sx_if _ _ _ = _
  rw [cx_ii, sx_if_t, cx_bin2 hq, sx_fo_eq]
theorem ax_s5 (C : ax_Cx W ih d D mi cd lst pc w L S M F Y n th ρ outs hh cs ss cL cS Post) (hop : sx_op w = 5) (h : ax_oIinc ih w d mi cd lst pc L S M F Y n th = some outs) : cx_G W D mi cd pc cL cS hh cs ss Post := by
  unfold ax_oIinc at h
  obtain ⟨c, h⟩ := ax_if0 h
  obtain ⟨c0, c⟩ := sx_and_ok c
  obtain ⟨c1, c2⟩ := sx_and_ok c
  have c0 : sx_wc w < 4294967296 := sx_blt c0
  rw [sx_fo_eq] at h
  obtain ⟨c3, h⟩ := ax_if0 h
  obtain ⟨P, jx, ex⟩ := (C.HL.ln (sx_wa w)).toInt (sx_ble c3)
  have ey : Nat.mul 8 (sx_wc w) = sx_i (Int32.ofNat (sx_wc w)) := by
    rw [ax_i_eq, ax_on_tn c0]; rfl
  rw [ey] at h
  obtain ⟨⟨ρ', v, Y', n', o', h1, h2, h3, h4, h5⟩, hq⟩ := ax_bin_ok (by omega) h C.X.yk C.X.fk jx (ax_J.i _)
  dsimp only at h1
  rw [sx_stK_eq] at h1
  refine C.go h1 h2 h3 (C.X.mono h3 h4) ((C.HL.mono' h3).set (ax_V.int h5) _) (C.HS.mono' h3) (fun ih => ?_)
  rw [cx_b5 hop]; unfold sx_oIinc
  rw [ax_pv_ok C.HL c1, sx_if_t, C.HL.len, c2, sx_if_t, sx_fo_eq, ex, ax_tg_i, show Nat.ble 0 1 = true from rfl, sx_if_t, ey, cx_bin hq, sx_stK_eq, sx_fo_eq]
theorem ax_s6 (C : ax_Cx W ih d D mi cd lst pc w L S M F Y n th ρ outs hh cs ss cL cS Post) (hop : sx_op w = 6) (h : ax_oIf ih w d mi cd lst pc L S M F Y n th = some outs) : cx_G W D mi cd pc cL cS hh cs ss Post := by
  unfold ax_oIf at h
  obtain ⟨x, r, rfl, h⟩ := ax_p1_h h
  obtain ⟨vx, cr, rfl, hx, HS⟩ := C.HS.c
  obtain ⟨c, h⟩ := ax_if0 h
  obtain ⟨P, jx, rfl⟩ := hx.toInt (sx_ble c)
  obtain ⟨F', Y', o', h1, h2, h3, h4⟩ := ax_cmp_ok h C.X.yk C.X.fk jx (show ax_J ρ 0 (sx_b 0) from ax_J.i 0)
  refine C.go h1 h2 List.prefix_rfl (C.X.yf h3 h4) C.HL HS (fun ih => ?_)
  rw [cx_b6 hop]; unfold sx_oIf
  show sx_if _ _ _ = _
  rw [ax_tg_i, show Nat.ble 0 1 = true from rfl, sx_if_t, show (0 : Nat) = sx_i 0 from rfl, cx_cmp, sx_fo_eq]
theorem ax_s7 (C : ax_Cx W ih d D mi cd lst pc w L S M F Y n th ρ outs hh cs ss cL cS Post) (hop : sx_op w = 7) (h : ax_oIcmp ih w d mi cd lst pc L S M F Y n th = some outs) : cx_G W D mi cd pc cL cS hh cs ss Post := by
  unfold ax_oIcmp at h
  obtain ⟨y, r1, vy, cr1, e1, f1, g1, hy, H1⟩ := ax_pop h C.HS
  obtain ⟨x, r2, vx, cr2, e2, f2, g2, hx, H2⟩ := ax_pop g1 H1
  subst e2 f2 e1 f1
  obtain ⟨c, h⟩ := ax_if0 g2
  obtain ⟨P, Q, jx, jy, rfl, rfl⟩ := ax_ii_ok hx hy c
  obtain ⟨F', Y', o', h1, h2, h3, h4⟩ := ax_cmp_ok h C.X.yk C.X.fk jx jy
  refine C.go h1 h2 List.prefix_rfl (C.X.yf h3 h4) C.HL H2 (fun ih => ?_)
  rw [cx_b7 hop]; unfold sx_oIcmp
  show sx_if _ _ _ = _
  rw [cx_ii, sx_if_t, cx_cmp, sx_fo_eq]
theorem ax_s8 (C : ax_Cx W ih d D mi cd lst pc w L S M F Y n th ρ outs hh cs ss cL cS Post) (hop : sx_op w = 8) (h : ax_oGoto ih w d mi cd lst L S M F Y n th = some outs) : cx_G W D mi cd pc cL cS hh cs ss Post := by
  unfold ax_oGoto at h
  refine C.go0 h C.HL C.HS (fun ih => ?_)
  rw [cx_b8 hop]; unfold sx_oGoto; rw [sx_fo_eq]
theorem ax_s29 (C : ax_Cx W ih d D mi cd lst pc w L S M F Y n th ρ outs hh cs ss cL cS Post) (hop : sx_op w = 29) (h : ax_oDup ih d mi cd lst pc L S M F Y n th = some outs) : cx_G W D mi cd pc cL cS hh cs ss Post := by
  unfold ax_oDup at h
  obtain ⟨x, r, rfl, h⟩ := ax_p1_h h
  obtain ⟨v, cr, rfl, hv, HS⟩ := C.HS.c
  obtain ⟨c, h⟩ := ax_if0 h
  refine C.go0 h C.HL (ax_Ls.cons hv (ax_Ls.cons hv HS)) (fun ih => ?_)
  rw [cx_b29 hop]; unfold sx_oDup
  show sx_if _ _ _ = _
  rw [sx_beq_e (show ¬ sx_tg v = 4 from hv.nl c), sx_if_f, sx_fo_eq]
theorem ax_s31 (C : ax_Cx W ih d D mi cd lst pc w L S M F Y n th ρ outs hh cs ss cL cS Post) (hop : sx_op w = 31) (h : ax_oPop ih d mi cd lst pc L S M F Y n th = some outs) : cx_G W D mi cd pc cL cS hh cs ss Post := by
  unfold ax_oPop at h
  obtain ⟨x, r, rfl, h⟩ := ax_p1_h h
  obtain ⟨v, cr, rfl, hv, HS⟩ := C.HS.c
  obtain ⟨c, h⟩ := ax_if0 h
  refine C.go0 h C.HL HS (fun ih => ?_)
  rw [cx_b31 hop]; unfold sx_oPop
  show sx_if _ _ _ = _
  rw [sx_beq_e (show ¬ sx_tg v = 4 from hv.nl c), sx_if_f, sx_fo_eq]
theorem cx_p1 {a : Nat} {r : List Nat} {K : Nat → List Nat → sx_R} : sx_p1 (a :: r) K = K a r := rfl
theorem ax_s30 (C : ax_Cx W ih d D mi cd lst pc w L S M F Y n th ρ outs hh cs ss cL cS Post) (hop : sx_op w = 30) (h : ax_oDup2 ih d mi cd lst pc L S M F Y n th = some outs) : cx_G W D mi cd pc cL cS hh cs ss Post := by
  unfold ax_oDup2 at h
  obtain ⟨x, r1, v, cr1, e1, f1, g1, hv, H1⟩ := ax_pop h C.HS
  subst e1 f1
  rcases ax_if g1 with ⟨c, h⟩ | ⟨c, h⟩
  · refine C.go0 h C.HL (ax_Ls.cons hv (ax_Ls.cons hv H1)) (fun ih => ?_)
    rw [cx_b30 hop]; unfold sx_oDup2
    rw [cx_p1, sx_fo_eq, sx_beq_t (show sx_tg v = 4 from (hv.lg c).1), sx_if_t]
  · obtain ⟨y, r2, u, cr2, e2, f2, g2, hu, H2⟩ := ax_pop h H1
    subst e2 f2
    obtain ⟨c, h⟩ := ax_if0 g2
    obtain ⟨c1, c2⟩ := sx_and_ok c
    refine C.go0 h C.HL (ax_Ls.cons hv (ax_Ls.cons hu (ax_Ls.cons hv (ax_Ls.cons hu H2)))) (fun ih => ?_)
    rw [cx_b30 hop]; unfold sx_oDup2
    rw [cx_p1, sx_fo_eq, sx_beq_e (show ¬ sx_tg v = 4 from hv.nl c1), sx_if_f, cx_p1, sx_beq_e (show ¬ sx_tg u = 4 from hu.nl c2), sx_if_f]
end AXS
