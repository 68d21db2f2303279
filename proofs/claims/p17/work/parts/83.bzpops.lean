/-! ax: more steps -/
theorem ax_mtK_eq (mi : Nat) (k : Nat → Nat → ax_R) : ax_mtK mi k = k (sx_mt mi).1 (sx_mt mi).2 := by
  unfold ax_mtK sx_mt
  rw [sx_if_eq]
  by_cases h : mi < 256
  · rw [sx_blt_t h, if_pos rfl, if_pos h, sx_rdK_eq]
  · rw [sx_blt_e h, if_neg (by decide), if_neg h, sx_rdK_eq]; rfl
theorem ax_rg_tag {Y : ax_Y} {n a : Nat} {K : Nat → Nat → ax_R} {outs : List ax_O} (h : ax_rg none Y n a K = some outs) : a % 8 ≤ 1 := by
  unfold ax_rg at h
  rcases ax_if h with ⟨c, h⟩ | ⟨-, h⟩
  · have : a % 8 = 0 := sx_beq c
    omega
  · obtain ⟨c, -⟩ := ax_if0 h
    have : a % 8 = 1 := sx_beq c
    omega
theorem ax_in_tag {Y : ax_Y} {n a lo hi : Nat} (h : ax_in Y n a lo hi = true) : a % 8 ≤ 1 := by
  unfold ax_in ax_rg at h
  cases c0 : Nat.beq (sx_tg a) 0 with
  | true => have : a % 8 = 0 := sx_beq c0; omega
  | false =>
    rw [c0, sx_if_f] at h
    cases c1 : Nat.beq (sx_tg a) 1 with
    | true => have : a % 8 = 1 := sx_beq c1; omega
    | false => rw [c1, sx_if_f] at h; cases h
theorem ax_in_ok {ρ : List Nat} {Y : ax_Y} {n a lo hi z : Nat} (h : ax_in Y n a lo hi = true) (hY : ax_Yk ρ Y n) (hJ : ax_J ρ a z) : lo ≤ z ∧ z ≤ hi := by
  unfold ax_in at h
  obtain ⟨l, u, g, h1, h2⟩ := ax_rg_ok (df := false) (K := fun l u => sx_and (Nat.ble lo l) (Nat.ble u hi)) hY hJ
  rw [g] at h
  obtain ⟨c1, c2⟩ := sx_and_ok h
  have c1 := sx_ble c1
  have c2 := sx_ble c2
  omega
theorem ax_nm_ne {α : Type} {Y : ax_Y} {n a : Nat} {K : Nat → α} (h : a % 8 ≠ 1) : ax_nm Y n a K = K a := by
  unfold ax_nm
  rw [sx_beq_e (show ¬ sx_tg a = 1 from h), sx_if_f]
/-- an int, or nothing known of it -/
theorem ax_nm_V {ρ : List Nat} {Y : ax_Y} {n a v : Nat} {K : Nat → ax_R} {outs : List ax_O} (h : ax_nm Y n a K = some outs) (hY : ax_Yk ρ Y n) (hv : ax_V ρ a v) : (a % 8 ≤ 1 ∧ ∃ P a', v = sx_i P ∧ ax_J ρ a' (sx_b P) ∧ K a' = some outs) ∨ (1 < a % 8 ∧ K a = some outs) := by
  by_cases t : a % 8 ≤ 1
  · obtain ⟨P, h1, h2⟩ := hv.toInt t
    obtain ⟨a', h3, h4⟩ := ax_nm_h h hY h1
    exact Or.inl ⟨t, P, a', h2, h4, h3⟩
  · rw [ax_nm_ne (by omega)] at h
    exact Or.inr ⟨by omega, h⟩
theorem cx_at (b : Bool) : sx_and true b = b := rfl
theorem ax_j_eq (z : Int64) : sx_j z = 8 * z.toBitVec.toNat + 4 := rfl
theorem ax_j_lt (z : Int64) : sx_j z < 4722366482869645213696 ∧ sx_j z % 8 = 4 ∧ sx_j z / 8 = z.toBitVec.toNat := by
  have := z.toBitVec.isLt
  rw [ax_j_eq]; omega
theorem ax_j_V {ρ : List Nat} (z : Int64) : ax_V ρ 23 (sx_j z) := Or.inr (Or.inr (Or.inr (Or.inr (Or.inl ⟨rfl, (ax_j_lt z).2.1, (ax_j_lt z).1⟩))))
theorem ax_j_R {ρ : List Nat} (z : Int64) : ax_V ρ (sx_j z) (sx_j z) := ax_V.ref ⟨by have := (ax_j_lt z).2.1; omega, by have := (ax_j_lt z).2.1; omega, (ax_j_lt z).1, fun q => by have := (ax_j_lt z).2.1; omega⟩
theorem ax_j_nz {P : Int32} (h : sx_b P ≠ 2147483648) : P.toInt64.toBitVec.toNat ≠ 0 := fun q => by
  apply h
  have e : P.toInt64 = 0 := Int64.toBitVec_inj.mp (BitVec.eq_of_toNat_eq (by rw [q]; rfl))
  have e2 : P.toInt = 0 := by rw [← Int32.toInt_toInt64, e]; rfl
  have := sx_b_int P
  omega
def ax_Gk (W : ax_W) (g : ax_G) : Prop := (g.1 = W.md) ∧ (g.2.2.2.2.2.1 = W.nv) ∧ (g.2.2.2.2.2.2.1 = W.lim)
theorem ax_Gk.md {W : ax_W} {g : ax_G} (q : ax_Gk W g) : g.1 = W.md := q.1
theorem ax_Gk.nv {W : ax_W} {g : ax_G} (q : ax_Gk W g) : g.2.2.2.2.2.1 = W.nv := q.2.1
theorem ax_Gk.lm {W : ax_W} {g : ax_G} (q : ax_Gk W g) : g.2.2.2.2.2.2.1 = W.lim := q.2.2
section AXS2
variable {W : ax_W} {ih : ax_ih} {g : ax_G} {d D mi cd : Nat} {lst : List ax_I} {pc w : Nat} {L S : List Nat} {M : ax_M} {F : ax_F} {Y : ax_Y} {n th : Nat} {ρ : List Nat} {outs : List ax_O} {hh : sx_H} {cs ss : Nat} {cL cS : List Nat} {Post : sx_O → Prop}
/-- a new value on the stack -/
theorem ax_Cx.got (C : ax_Cx W ih d D mi cd lst pc w L S M F Y n th ρ outs hh cs ss cL cS Post) {p : Nat} {r cr : List Nat} {P : Int32} (G : ax_Got ρ outs (fun v Y n => ax_on ih d mi cd lst th p L (v :: r) M F Y n) (sx_b P)) (H : ax_Ls ρ r cr)
    (hb : ∀ ih, sx_body ih W.N w D mi cd [] pc cL cS hh 160 W.sy cs ss = ih D mi cd [] false p cL (sx_i P :: cr) hh 160 W.sy cs ss) : cx_G W D mi cd pc cL cS hh cs ss Post := by
  obtain ⟨ρ', v, Y', n', o', h1, h2, h3, h4, h5⟩ := G
  exact C.go h1 h2 h3 (C.X.mono h3 h4) (C.HL.mono' h3) (ax_Ls.cons (ax_V.int h5) (H.mono' h3)) hb
theorem ax_s32 (C : ax_Cx W ih d D mi cd lst pc w L S M F Y n th ρ outs hh cs ss cL cS Post) (hop : sx_op w = 32) (h : ax_oUn ih w d mi cd lst pc L S M F Y n th = some outs) : cx_G W D mi cd pc cL cS hh cs ss Post := by
  unfold ax_oUn at h
  obtain ⟨a, r, v, cr, e1, f1, h1, hv, H⟩ := ax_pop h C.HS
  subst e1 f1
  rcases ax_if h1 with ⟨c, h2⟩ | ⟨c, h2⟩
  · obtain ⟨c2, h3⟩ := ax_if0 h2
    refine C.got (P := (Int64.ofNat (sx_pl v)).toInt32) (ax_Got.any h3 C.X.yk (sx_b_lt _)) H (fun ih => ?_)
    rw [cx_b32 hop]; unfold sx_oUn
    rw [cx_p1, sx_fo_eq, c, sx_if_t, sx_beq_t (show sx_tg v = 4 from (hv.lg c2).1), sx_if_t, sx_fo_eq]
  · obtain ⟨P, jx, rfl⟩ := hv.toInt (ax_rg_tag h2)
    obtain ⟨lo, hi, h3, b1, b2⟩ := ax_rg_h h2 C.X.yk jx
    rcases ax_if h3 with ⟨c0, h4⟩ | ⟨c0, h4⟩
    · have fin : ax_Got ρ outs (fun v Y n => ax_on ih d mi cd lst th (Nat.succ pc) L (v :: r) M F Y n) (sx_b (-P)) := by
        rcases ax_if h4 with ⟨-, h5⟩ | ⟨c4, h5⟩
        · exact ax_Got.any h5 C.X.yk (sx_b_lt _)
        · have c4 := sx_beq_f c4
          have e := ax_b_neg (P := P) (by omega)
          exact ax_fn_plain h5 C.X.yk (by show 4294967296 - hi ≤ _; omega) (by show _ ≤ 4294967296 - lo; omega) (sx_b_lt _)
      refine C.got fin H (fun ih => ?_)
      rw [cx_b32 hop]; unfold sx_oUn
      rw [cx_p1, sx_fo_eq, c, sx_if_f, cx_nm, ax_tg_i, sx_beq_t rfl, sx_if_t, c0, sx_if_t, ax_on_pl, sx_fo_eq]
    · have hb : ∀ ih, sx_body ih W.N w D mi cd [] pc cL (sx_i P :: cr) hh 160 W.sy cs ss = ih D mi cd [] false (Nat.succ pc) cL (sx_j P.toInt64 :: cr) hh 160 W.sy cs ss := fun ih => by
        rw [cx_b32 hop]; unfold sx_oUn
        rw [cx_p1, sx_fo_eq, c, sx_if_f, cx_nm, ax_tg_i, sx_beq_t rfl, sx_if_t, c0, sx_if_f, ax_on_pl, sx_fo_eq]
      rcases ax_if h4 with ⟨c4, h5⟩ | ⟨c4, h5⟩
      · have c4 := sx_beq c4
        rw [sx_fo_eq, show lo = sx_b P by omega, sx_b_back] at h5
        exact C.go0 h5 C.HL (ax_Ls.cons (ax_j_R _) H) hb
      · cases ck : sx_if (Nat.blt 2147483648 lo) true (Nat.blt hi 2147483648) with
        | false =>
          rw [ck, sx_if_f] at h5
          exact C.go0 h5 C.HL (ax_Ls.cons (ax_j_V _) H) hb
        | true =>
          rw [ck, sx_if_t] at h5
          have ne : sx_b P ≠ 2147483648 := by
            rcases ax_or ck with q | q
            · have q : 2147483648 < lo := sx_blt q
              omega
            · have q : hi < 2147483648 := sx_blt q
              omega
          have nz := ax_j_nz ne
          have l := P.toInt64.toBitVec.isLt
          obtain ⟨k1, k2, k3⟩ := ax_j_lt P.toInt64
          exact C.go0 h5 C.HL (ax_Ls.cons (Or.inr (Or.inr (Or.inr (Or.inr (Or.inr (Or.inl ⟨rfl, k2, k1, by rw [k3, Nat.mod_eq_of_lt l]; exact nz⟩)))))) H) hb
theorem ax_s35 (C : ax_Cx W ih d D mi cd lst pc w L S M F Y n th ρ outs hh cs ss cL cS Post) (hop : sx_op w = 35) (h : ax_oLb ih w d mi cd lst pc L S M F Y n th = some outs) : cx_G W D mi cd pc cL cS hh cs ss Post := by
  unfold ax_oLb at h
  obtain ⟨y, r1, vy, cr1, e1, f1, g1, hy, H1⟩ := ax_pop h C.HS
  obtain ⟨x, r2, vx, cr2, e2, f2, g2, hx, H2⟩ := ax_pop g1 H1
  subst e2 f2 e1 f1
  obtain ⟨c, h1⟩ := ax_if0 g2
  obtain ⟨c1, c⟩ := sx_and_ok c
  obtain ⟨c2, c3⟩ := sx_and_ok c
  have k1 := (hx.lg c1).1
  have k2 := (hy.lg c2).1
  have k3 : sx_if (Nat.beq (sx_wa w) 3) (!Nat.beq (Nat.mod (sx_pl vy) 18446744073709551616) 0) true = true := by
    cases q : Nat.beq (sx_wa w) 3 with
    | false => rfl
    | true =>
      rw [q, sx_if_t] at c3
      rw [sx_if_t]
      rcases ax_or c3 with q1 | q1
      · have q1 := sx_beq q1
        subst q1
        have nz : vy / 8 % 18446744073709551616 ≠ 0 := by
          rcases hy with ⟨h, -⟩ | ⟨⟨-, h, -⟩, -⟩ | ⟨h, -⟩ | ⟨h, -⟩ | ⟨h, -⟩ | ⟨-, -, -, h⟩ | h
          all_goals first | exact h | omega
        rw [sx_beq_e (show ¬ Nat.mod (sx_pl vy) 18446744073709551616 = 0 from nz)]
        rfl
      · obtain ⟨q1, q2⟩ := sx_and_ok q1
        have q1 : y % 8 = 4 := sx_beq q1
        obtain ⟨-, rfl⟩ := hy.toRef (by omega) (by omega)
        exact q2
  have hb : ∀ ih, sx_body ih W.N w D mi cd [] pc cL (vy :: vx :: cr2) hh 160 W.sy cs ss = ih D mi cd [] false (Nat.succ pc) cL (sx_lf (sx_wa w) (Int64.ofNat (sx_pl vx)) (Int64.ofNat (sx_pl vy)) :: cr2) hh 160 W.sy cs ss := fun ih => by
    rw [cx_b35 hop]; unfold sx_oLb
    rw [cx_p1, cx_p1, sx_beq_t (show sx_tg vx = 4 from k1), sx_beq_t (show sx_tg vy = 4 from k2), k3, cx_at, cx_at, sx_if_t, sx_fo_eq, sx_fo_eq]
  rcases ax_if h1 with ⟨c4, h2⟩ | ⟨c4, h2⟩
  · have c4 := sx_ble c4
    have e : ∃ z, sx_lf (sx_wa w) (Int64.ofNat (sx_pl vx)) (Int64.ofNat (sx_pl vy)) = sx_j z := by
      unfold sx_lf
      rcases (show sx_wa w = 0 ∨ sx_wa w = 1 ∨ sx_wa w = 2 ∨ sx_wa w = 3 by omega) with q | q | q | q <;> rw [q] <;> exact ⟨_, rfl⟩
    obtain ⟨z, e⟩ := e
    rw [e] at hb
    exact C.go0 h2 C.HL (ax_Ls.cons (ax_j_V _) H2) hb
  · have c4 := sx_ble_f c4
    have e : sx_lf (sx_wa w) (Int64.ofNat (sx_pl vx)) (Int64.ofNat (sx_pl vy)) = sx_i (lg_cmp (Int64.ofNat (sx_pl vx)) (Int64.ofNat (sx_pl vy))) := by
      unfold sx_lf
      rw [sx_beq_e (by omega), sx_if_f, sx_beq_e (by omega), sx_if_f, sx_beq_e (by omega), sx_if_f, sx_beq_e (by omega), sx_if_f]
    rw [e] at hb
    have bd : ∀ x y : Int64, 2147483647 ≤ sx_b (lg_cmp x y) ∧ sx_b (lg_cmp x y) ≤ 2147483649 := fun x y => by
      unfold lg_cmp
      split
      · decide
      · split <;> decide
    obtain ⟨v, h3, h4, h5⟩ := ax_fr_ok h2 C.X.yk (ax_En.plain (bd _ _).1 (bd _ _).2 (sx_b_lt _))
    exact C.got ⟨_, v, _, _, outs, h3, fun _ h => h, List.prefix_append _ _, h4, h5⟩ H2 hb
theorem ax_s42 (C : ax_Cx W ih d D mi cd lst pc w L S M F Y n th ρ outs hh cs ss cL cS Post) (hop : sx_op w = 42) (h : ax_oI2c ih d mi cd lst pc L S M F Y n th = some outs) : cx_G W D mi cd pc cL cS hh cs ss Post := by
  unfold ax_oI2c at h
  obtain ⟨a, r, v, cr, e1, f1, h1, hv, H⟩ := ax_pop h C.HS
  subst e1 f1
  rcases ax_nm_V h1 C.X.yk hv with ⟨-, P, a', rfl, j, h2⟩ | ⟨t, h2⟩
  · obtain ⟨c, h3⟩ := ax_if0 h2
    have b := ax_in_ok c C.X.yk j
    obtain ⟨p, hp1, -, hp⟩ := ax_b_pos (P := P) b.1
    refine C.go0 h3 C.HL (ax_Ls.cons (ax_V.int j) H) (fun ih => ?_)
    rw [cx_b42 hop]; unfold sx_oI2c
    rw [cx_p1, cx_nm, ax_tg_i, ax_pl_i, hp1, sx_blt_t (show p < 65536 by omega), sx_beq_t rfl, cx_at, sx_if_t, sx_fo_eq]
  · obtain ⟨c, -⟩ := ax_if0 h2
    have := ax_in_tag c
    omega
theorem ax_s38 (C : ax_Cx W ih d D mi cd lst pc w L S M F Y n th ρ outs hh cs ss cL cS Post) (hop : sx_op w = 38) (h : ax_oSget ih w d mi cd lst pc L S M F Y n th = some outs) : cx_G W D mi cd pc cL cS hh cs ss Post := by
  unfold ax_oSget at h
  obtain ⟨a, r, v, cr, e1, f1, h1, hv, H⟩ := ax_pop h C.HS
  subst e1 f1
  obtain ⟨c, h2⟩ := ax_if0 h1
  obtain ⟨c1, c2⟩ := sx_and_ok c
  obtain ⟨c2, c3⟩ := sx_and_ok c2
  have c1 : a % 8 = 5 := sx_beq c1
  have c3 : a / 8 < 2 + sx_ns := sx_blt c3
  obtain ⟨k, rfl⟩ := hv.toRef (by omega) (by omega)
  rcases ax_if h2 with ⟨c4, h3⟩ | ⟨c4, h3⟩
  · refine C.go0 h3 C.HL (ax_Ls.cons (show ax_V ρ 0 0 from ax_V.int (ax_J.i 0)) H) (fun ih => ?_)
    rw [cx_b38 hop]; unfold sx_oSget
    rw [cx_p1, c, sx_if_t, sx_fo_eq, c4, sx_if_t]
  · rw [sx_fo_eq] at h3
    have e : Nat.add (Nat.mul 8 (Nat.add (sx_pl v) sx_ns)) 5 = 8 * (v / 8 + 71) + 5 := rfl
    refine C.go0 h3 C.HL (ax_Ls.cons (ax_V.ref ?_) H) (fun ih => ?_)
    · rw [e]
      have c3 : v / 8 < 2 + 71 := c3
      exact ⟨by omega, by omega, by omega, fun q => by omega⟩
    · rw [cx_b38 hop]; unfold sx_oSget
      rw [cx_p1, c, sx_if_t, sx_fo_eq, c4, sx_if_f, sx_fo_eq]
theorem ax_s33 (C : ax_Cx W ih d D mi cd lst pc w L S M F Y n th ρ outs hh cs ss cL cS Post) (hop : sx_op w = 33) (h : ax_oLdcS ih w d mi cd lst pc L S M F Y n th = some outs) : cx_G W D mi cd pc cL cS hh cs ss Post := by
  unfold ax_oLdcS at h
  obtain ⟨c, h1⟩ := ax_if0 h
  rw [sx_fo_eq] at h1
  have c' : sx_wa w < 71 := sx_blt c
  have e : Nat.add (Nat.mul 8 (Nat.add 2 (sx_wa w))) 5 = 8 * (2 + sx_wa w) + 5 := rfl
  refine C.go0 h1 C.HL (ax_Ls.cons (ax_V.ref ?_) C.HS) (fun ih => ?_)
  · rw [e]
    exact ⟨by omega, by omega, by omega, fun q => by omega⟩
  · rw [cx_b33 hop]; unfold sx_oLdcS
    rw [c, sx_if_t, sx_fo_eq, sx_fo_eq]
theorem ax_opt_h {α : Type} {o : Option α} {f : α → ax_R} {outs : List ax_O} (h : (Option.rec none f o : ax_R) = some outs) : ∃ x, o = some x ∧ f x = some outs := by
  cases o with
  | none => cases h
  | some x => exact ⟨x, rfl, h⟩
theorem ax_s41 (C : ax_Cx W ih d D mi cd lst pc w L S M F Y n th ρ outs hh cs ss cL cS Post) (hop : sx_op w = 41) (h : ax_oLcon ih w d mi cd lst pc L S M F Y n th = some outs) : cx_G W D mi cd pc cL cS hh cs ss Post := by
  unfold ax_oLcon at h
  obtain ⟨t, ht, h1⟩ := ax_opt_h h
  rw [sx_fo_eq] at h1
  refine C.go0 h1 C.HL (ax_Ls.cons (ax_j_R _) C.HS) (fun ih => ?_)
  rw [cx_b41 hop]; unfold sx_oLcon
  rw [ht]
  show sx_fo _ _ = _
  rw [sx_fo_eq, sx_fo_eq]
theorem ax_nil_h {r : List Nat} {o : ax_R} {outs : List ax_O} (h : (List.rec o (fun _ _ _ => none) r : ax_R) = some outs) : r = [] ∧ o = some outs := by
  cases r with
  | nil => exact ⟨rfl, h⟩
  | cons a t => cases h
theorem ax_Ls.nl : ∀ {c : List Nat}, ax_Ls ρ [] c → c = []
  | [], _ => rfl
  | _ :: _, h => h.elim
theorem ax_s26 (C : ax_Cx W ih d D mi cd lst pc w L S M F Y n th ρ outs hh cs ss cL cS Post) (hop : sx_op w = 26) (h : ax_oRet w S M F Y n th = some outs) : cx_G W D mi cd pc cL cS hh cs ss Post := by
  unfold ax_oRet at h
  obtain ⟨a, r, v, cr, e1, f1, h1, hv, H⟩ := ax_pop h C.HS
  subst e1 f1
  obtain ⟨c, h2⟩ := ax_if0 h1
  obtain ⟨rfl, h3⟩ := ax_nil_h h2
  have := H.nl
  subst this
  cases h3
  refine cx_end C.hw C.wh (o := (1, v, hh, 160, W.sy, cs, ss)) (C.Pq _ List.mem_cons_self ρ _ List.prefix_rfl ⟨rfl, fun _ => hv, rfl, rfl, C.X⟩) (fun ih => ?_)
  rw [cx_b26 hop]; unfold sx_oRet
  rw [cx_p1]
  have e : sx_if (Nat.beq (sx_wa w) 0) (Nat.ble (sx_tg v) 1) (sx_if (Nat.beq (sx_wa w) 1) (sx_and (Nat.beq (sx_tg v) 0) (Nat.ble (sx_pl v) 1)) (Nat.beq (sx_tg v) 4)) = true := by
    cases c0 : Nat.beq (sx_wa w) 0 with
    | true =>
      rw [c0, sx_if_t] at c
      obtain ⟨P, -, rfl⟩ := hv.toInt (sx_ble c)
      rw [sx_if_t, ax_tg_i]; rfl
    | false =>
      rw [c0, sx_if_f] at c
      rw [sx_if_f]
      cases c1 : Nat.beq (sx_wa w) 1 with
      | true =>
        rw [c1, sx_if_t] at c
        obtain ⟨P, j, rfl⟩ := hv.toInt (ax_in_tag c)
        have b := ax_in_ok c C.X.yk j
        obtain ⟨p, hp1, -, hp⟩ := ax_b_pos (P := P) b.1
        rw [sx_if_t, ax_tg_i, ax_pl_i, hp1, show Nat.ble p 1 = true from Nat.ble_eq.mpr (by omega)]; rfl
      | false =>
        rw [c1, sx_if_f] at c
        rw [sx_if_f]
        exact sx_beq_t (hv.lg c).1
  rw [e, sx_if_t]; rfl
theorem ax_s43 (C : ax_Cx W ih d D mi cd lst pc w L S M F Y n th ρ outs hh cs ss cL cS Post) (hop : sx_op w = 43) (h : ax_oRetN w S M F Y n th = some outs) : cx_G W D mi cd pc cL cS hh cs ss Post := by
  unfold ax_oRetN at h
  obtain ⟨a, r, v, cr, e1, f1, h1, hv, H⟩ := ax_pop h C.HS
  subst e1 f1
  obtain ⟨c, h2⟩ := ax_if0 h1
  obtain ⟨rfl, h3⟩ := ax_nil_h h2
  have := H.nl
  subst this
  cases h3
  refine cx_end C.hw C.wh (o := (1, v, hh, 160, W.sy, cs, ss)) (C.Pq _ List.mem_cons_self ρ _ List.prefix_rfl ⟨rfl, fun _ => hv, rfl, rfl, C.X⟩) (fun ih => ?_)
  rw [cx_b43 hop]; unfold sx_oRetN
  rw [cx_p1]
  have e : sx_and (Nat.beq (sx_tg v) 0) (Nat.blt (sx_pl v) (sx_if (Nat.beq (sx_wa w) 0) 128 65536)) = true := by
    obtain ⟨P, j, rfl⟩ := hv.toInt (ax_in_tag c)
    have b := ax_in_ok c C.X.yk j
    obtain ⟨p, hp1, -, hp⟩ := ax_b_pos (P := P) b.1
    have b2 : sx_b P ≤ 2147483648 + sx_if (Nat.beq (sx_wa w) 0) 127 65535 := b.2
    rw [ax_tg_i, ax_pl_i, hp1]
    cases c0 : Nat.beq (sx_wa w) 0 with
    | true =>
      rw [c0, sx_if_t] at b2
      rw [sx_if_t, sx_blt_t (show p < 128 by omega)]; rfl
    | false =>
      rw [c0, sx_if_f] at b2
      rw [sx_if_f, sx_blt_t (show p < 65536 by omega)]; rfl
  rw [e, sx_if_t]; rfl
theorem ax_s27 (C : ax_Cx W ih d D mi cd lst pc w L S M F Y n th ρ outs hh cs ss cL cS Post) (hop : sx_op w = 27) (h : ax_oVret S M F Y n th = some outs) : cx_G W D mi cd pc cL cS hh cs ss Post := by
  obtain ⟨rfl, h3⟩ := ax_nil_h h
  have := C.HS.nl
  subst this
  cases h3
  refine cx_end C.hw C.wh (o := (0, 0, hh, 160, W.sy, cs, ss)) (C.Pq _ List.mem_cons_self ρ _ List.prefix_rfl ⟨rfl, (fun q => by cases q), rfl, rfl, C.X⟩) (fun ih => ?_)
  rw [cx_b27 hop]; rfl
theorem ax_s28 (hG : ax_Gk W g) (C : ax_Cx W ih d D mi cd lst pc w L S M F Y n th ρ outs hh cs ss cL cS Post) (hop : sx_op w = 28) (h : ax_oThrow g w mi S M F Y n th = some outs) : cx_G W D mi cd pc cL cS hh cs ss Post := by
  unfold ax_oThrow at h
  rw [ax_mtK_eq] at h
  obtain ⟨c, h1⟩ := ax_if0 h
  obtain ⟨c1, c2⟩ := sx_and_ok c
  obtain ⟨c2, c3⟩ := sx_and_ok c2
  have c3 : th < W.lim := by rw [← hG.lm]; exact sx_blt c3
  have rm1 := C.wk.rm1
  have rm2 := C.wk.rm2
  have r1 := C.X.r1
  have r2 := C.X.r2
  rw [sx_fo_eq] at h1
  cases h1
  refine cx_end C.hw C.wh (o := (Nat.add 2 (Nat.mod (sx_wb w) 16), 0, hh, 160, W.sy, cs + 1, ss + 6)) (C.Pq _ List.mem_cons_self ρ _ List.prefix_rfl ⟨rfl, fun q => ?_, rfl, rfl, ?_⟩) (fun ih => ?_)
  · have q : 2 + sx_wb w % 16 = 1 := q
    omega
  · exact ⟨C.X.yk, C.X.fk, C.X.mm, C.X.hs, C.X.fr, C.X.nv, by show cs + 1 ≤ W.cb + (th + 1); omega, by show ss + 6 ≤ W.sb + 6 * (th + 1); omega, by show cs + 1 ≤ _; omega, by show ss + 6 ≤ _; omega⟩
  · rw [cx_b28 hop]; unfold sx_oThrow
    rw [sx_mtK_eq, c1, show Nat.ble (List.length cS) 40 = true by rw [C.HS.len]; exact c2, sx_blt_t (show cs < 600002 by omega), show Nat.ble (Nat.add ss 6) 7302232 = true from Nat.ble_eq.mpr (by show ss + 6 ≤ _; omega), cx_at, cx_at, cx_at, sx_if_t, sx_fo_eq, sx_fo_eq]
theorem ax_s36 (C : ax_Cx W ih d D mi cd lst pc w L S M F Y n th ρ outs hh cs ss cL cS Post) (hop : sx_op w = 36) (h : ax_oBald ih d mi cd lst pc L S M F Y n th = some outs) : cx_G W D mi cd pc cL cS hh cs ss Post := by
  unfold ax_oBald at h
  obtain ⟨i, r1, vi, cr1, e1, f1, g1, hi, H1⟩ := ax_pop h C.HS
  obtain ⟨a, r2, va, cr2, e2, f2, g2, ha, H2⟩ := ax_pop g1 H1
  subst e2 f2 e1 f1
  obtain ⟨c, h1⟩ := ax_if0 g2
  obtain ⟨t, ht, h2⟩ := ax_opt_h h1
  obtain ⟨ca, -⟩ := sx_and_ok c
  have ca : a % 8 = 5 := sx_beq ca
  obtain ⟨-, rfl⟩ := ha.toRef (by omega) (by omega)
  rcases ax_nm_V h2 C.X.yk hi with ⟨-, P, i', rfl, j, h3⟩ | ⟨t, h3⟩
  · obtain ⟨c0, h4⟩ := ax_if0 h3
    have c0 : i' % 8 = 0 := sx_beq c0
    obtain ⟨z, hz, h5⟩ := ax_opt_h h4
    obtain ⟨c5, h6⟩ := ax_if0 h5
    have c5 : z < 4294967296 := sx_blt c5
    rw [sx_fo_eq] at h6
    have e := (j.i0 c0).1
    subst e
    rw [ax_pl_i] at hz
    have ez : Nat.mul 8 z = sx_i (Int32.ofNat z) := by rw [ax_i_eq, ax_on_tn c5]; rfl
    rw [ez] at h6
    refine C.go0 h6 C.HL (ax_Ls.cons (ax_V.int (ax_J.i _)) H2) (fun ih => ?_)
    rw [cx_b36 hop]; unfold sx_oBald
    rw [cx_p1, cx_p1, c, sx_if_t, ht]
    show sx_ix _ _ _ = _
    rw [cx_ix, hz]
    show sx_fo _ _ = _
    rw [sx_fo_eq, sx_fo_eq, ez]
  · obtain ⟨c0, -⟩ := ax_if0 h3
    have c0 : i % 8 = 0 := sx_beq c0
    omega
end AXS2
