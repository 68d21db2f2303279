/-! sx: comparisons and sums of symbols -/
section SXArith
variable {b : Nat → Nat} {ad : List Nat} {rs : List Int32} {sy : sx_Y} {outs : List sx_O}
theorem sx_cy_ok {t f : Bool} {i li hi j lj hj : Nat} {x y : Int32} {K : Bool → sx_Y → sx_R} (h : sx_cy t f sy i li hi j lj hj K = some outs) (hy : sx_Yok rs sy) (hi' : rs[i]? = some x) (hj' : rs[j]? = some y) (h1 : li ≤ sx_b x) (h2 : sx_b x ≤ hi) (h3 : lj ≤ sx_b y) (h4 : sx_b y ≤ hj) :
    ∃ sy' outs', K (if sx_b x < sx_b y then t else f) sy' = some outs' ∧ (∀ o ∈ outs', o ∈ outs) ∧ sx_Yok rs sy' ∧ sy'.length = sy.length := by
  unfold sx_cy at h
  simp only [sx_mn_eq, sx_mx_eq] at h
  obtain ⟨u, w, hu, hw, e1⟩ := sx_app_ok (show _ = some outs from h)
  by_cases hlt : sx_b x < sx_b y
  · rw [if_pos hlt]
    rw [sx_beq_e (show ¬ hj = 0 by omega)] at hu
    obtain ⟨s1, a1, a2, a3, -⟩ := sx_rf_ok (show sx_rf sy i li (min hi (hj - 1)) _ = some u from hu) hy hi' h1 (by omega)
    obtain ⟨s2, b1, b2, b3, -⟩ := sx_rf_ok (show sx_rf s1 j (max lj (li + 1)) hj _ = some u from a1) a2 hj' (by omega) h4
    exact ⟨s2, u, b1, sx_sub_app_l e1, b2, b3.trans a3⟩
  · rw [if_neg hlt]
    obtain ⟨s1, a1, a2, a3, -⟩ := sx_rf_ok hw hy hi' (by omega) h2
    obtain ⟨s2, b1, b2, b3, -⟩ := sx_rf_ok a1 a2 hj' h3 (by omega)
    exact ⟨s2, w, b1, sx_sub_app_r e1, b2, b3.trans a3⟩
theorem sx_cw_ok {c : Nat} (h : c ≤ 5) : sx_cw c ≤ 5 := by
  rcases (show c = 0 ∨ c = 1 ∨ c = 2 ∨ c = 3 ∨ c = 4 ∨ c = 5 by omega) with rfl | rfl | rfl | rfl | rfl | rfl <;> decide
theorem sx_beq_comm (a d : Nat) : Nat.beq a d = Nat.beq d a := by
  by_cases h : a = d
  · rw [h]
  · rw [sx_beq_e h, sx_beq_e (fun q => h q.symm)]
theorem sx_cb_cw {c : Nat} (h : c ≤ 5) (a d : Nat) : sx_cb (sx_cw c) d a = sx_cb c a d := by
  rcases (show c = 0 ∨ c = 1 ∨ c = 2 ∨ c = 3 ∨ c = 4 ∨ c = 5 by omega) with rfl | rfl | rfl | rfl | rfl | rfl
  · exact sx_beq_comm d a
  · show (!Nat.beq d a) = !Nat.beq a d; rw [sx_beq_comm]
  · rfl
  · rfl
  · rfl
  · rfl
theorem sx_cb_sy (c : Nat) (h : c = 2 ∨ c = 3) (a d : Nat) : (if a < d then Nat.beq c 2 else Nat.beq c 3) = sx_cb c a d := by
  rcases h with rfl | rfl
  · show (if a < d then true else false) = Nat.blt a d
    by_cases q : a < d
    · rw [if_pos q, sx_blt_t q]
    · rw [if_neg q, sx_blt_e q]
  · show (if a < d then false else true) = Nat.ble d a
    by_cases q : a < d
    · rw [if_pos q, sx_ble_e (by omega)]
    · rw [if_neg q, Nat.ble_eq_true_of_le (by omega)]
theorem sx_cb_sz (c : Nat) (h : c = 4 ∨ c = 5) (a d : Nat) : (if d < a then Nat.beq c 4 else Nat.beq c 5) = sx_cb c a d := by
  rcases h with rfl | rfl
  · show (if d < a then true else false) = Nat.blt d a
    by_cases q : d < a
    · rw [if_pos q, sx_blt_t q]
    · rw [if_neg q, sx_blt_e q]
  · show (if d < a then false else true) = Nat.ble a d
    by_cases q : d < a
    · rw [if_pos q, sx_ble_e (by omega)]
    · rw [if_neg q, Nat.ble_eq_true_of_le (by omega)]
theorem sx_cmp_ok {c x y : Nat} {p q : Int32} {K : Bool → sx_Y → sx_R} (hc : c ≤ 5) (h : sx_cmp c x y sy K = some outs) (hy : sx_Yok rs sy) (hx : sx_V b ad rs x (.int p)) (hq : sx_V b ad rs y (.int q)) :
    ∃ sy' outs', K (sx_cb c (sx_b p) (sx_b q)) sy' = some outs' ∧ (∀ o ∈ outs', o ∈ outs) ∧ sx_Yok rs sy' ∧ sy'.length = sy.length := by
  unfold sx_cmp at h
  obtain ⟨x', h, hx', -⟩ := sx_nm_ok h hy hx
  obtain ⟨y', h, hy', -⟩ := sx_nm_ok h hy hq
  cases h0 : Nat.beq (sx_tg x') 0 with
  | true =>
    rw [h0, sx_if_t] at h
    have e0 := hx'.t0 (sx_beq h0)
    cases e0
    cases g0 : Nat.beq (sx_tg y') 0 with
    | true =>
      rw [g0, sx_if_t] at h
      have f0 := hy'.t0 (sx_beq g0)
      cases f0
      refine ⟨sy, outs, ?_, fun _ h => h, hy, rfl⟩
      rw [sx_b_ofNat, sx_b_ofNat]
      exact h
    | false =>
      rw [g0, sx_if_f] at h
      obtain ⟨g1, h⟩ := sx_if_ok h
      obtain ⟨e, he, h⟩ := sx_opt_ok (show _ = some outs from h)
      rw [sx_nth_eq] at he
      rw [sx_fo_eq] at h
      obtain ⟨z, hz, hzq⟩ := hy'.t1 (sx_beq g1)
      cases hzq
      obtain ⟨r1, r2, -⟩ := hy.2 _ q e hz he
      obtain ⟨s1, o1, a1, a2, a3, a4⟩ := sx_cs_ok (sx_cw_ok hc) h hy hz r1 r2
      refine ⟨s1, o1, ?_, a2, a3, a4⟩
      rw [sx_cb_cw hc] at a1
      rw [sx_b_ofNat]
      exact a1
  | false =>
    rw [h0, sx_if_f] at h
    obtain ⟨h1, h⟩ := sx_if_ok h
    obtain ⟨e, he, h⟩ := sx_opt_ok (show _ = some outs from h)
    rw [sx_nth_eq] at he
    obtain ⟨z, hz, hzp⟩ := hx'.t1 (sx_beq h1)
    cases hzp
    obtain ⟨r1, r2, -⟩ := hy.2 _ p e hz he
    cases g0 : Nat.beq (sx_tg y') 0 with
    | true =>
      rw [g0, sx_if_t, sx_fo_eq] at h
      have f0 := hy'.t0 (sx_beq g0)
      cases f0
      obtain ⟨s1, o1, a1, a2, a3, a4⟩ := sx_cs_ok hc h hy hz r1 r2
      refine ⟨s1, o1, ?_, a2, a3, a4⟩
      rw [sx_b_ofNat]
      exact a1
    | false =>
      rw [g0, sx_if_f] at h
      obtain ⟨g1, h⟩ := sx_if_ok h
      obtain ⟨e2, he2, h⟩ := sx_opt_ok (show _ = some outs from h)
      rw [sx_nth_eq] at he2
      obtain ⟨z2, hz2, hzq⟩ := hy'.t1 (sx_beq g1)
      cases hzq
      obtain ⟨r3, r4, -⟩ := hy.2 _ q e2 hz2 he2
      cases c1 : Nat.ble c 1 with
      | true =>
        rw [c1, sx_if_t] at h
        obtain ⟨s1, o1, a1, a2, a3, a4, ⟨u, v, a5⟩, a6⟩ := sx_en_ok h hy hz r1 r2
        obtain ⟨e3, he3, a1⟩ := sx_opt_ok (show _ = some o1 from a1)
        rw [sx_nth_eq] at he3
        cases he3.symm.trans a5
        obtain ⟨e4, he4, a1⟩ := sx_opt_ok (show _ = some o1 from a1)
        rw [sx_nth_eq] at he4
        obtain ⟨r5, r6, -⟩ := a3.2 _ q e4 hz2 he4
        obtain ⟨s2, o2, b1, b2, b3, b4⟩ := sx_cs_ok (sx_cw_ok hc) a1 a3 hz2 r5 r6
        rw [sx_cb_cw hc] at b1
        exact ⟨s2, o2, b1, fun o ho => a2 o (b2 o ho), b3, b4.trans a4⟩
      | false =>
        rw [c1, sx_if_f] at h
        have hc1 := sx_ble_f c1
        cases c3 : Nat.ble c 3 with
        | true =>
          rw [c3, sx_if_t] at h
          have hc3 := sx_ble c3
          obtain ⟨s1, o1, a1, a2, a3, a4⟩ := sx_cy_ok h hy hz hz2 r1 r2 r3 r4
          rw [sx_cb_sy c (by omega)] at a1
          exact ⟨s1, o1, a1, a2, a3, a4⟩
        | false =>
          rw [c3, sx_if_f] at h
          have hc3 := sx_ble_f c3
          obtain ⟨s1, o1, a1, a2, a3, a4⟩ := sx_cy_ok h hy hz2 hz r3 r4 r1 r2
          rw [sx_cb_sz c (by omega)] at a1
          exact ⟨s1, o1, a1, a2, a3, a4⟩
/-! sums -/
theorem sx_tn_back (z : Int32) : Int32.ofNat z.toBitVec.toNat = z := by
  apply Int32.toBitVec_inj.mp
  simp [Int32.ofNat]
theorem sx_i_ok (z : Int32) : sx_i z % 8 = 0 ∧ Int32.ofNat (sx_i z / 8) = z := by
  unfold sx_i
  refine ⟨Nat.mul_mod_right 8 _, ?_⟩
  rw [show Nat.mul 8 z.toBitVec.toNat / 8 = z.toBitVec.toNat from Nat.mul_div_cancel_left _ (by decide)]
  apply Int32.toBitVec_inj.mp
  simp [Int32.ofNat]
theorem sx_j_ok (z : Int64) : sx_j z % 8 = 4 ∧ Int64.ofNat (sx_j z / 8) = z := by
  unfold sx_j
  have h : Nat.add (Nat.mul 8 z.toBitVec.toNat) 4 = 8 * z.toBitVec.toNat + 4 := rfl
  rw [h]
  refine ⟨by omega, ?_⟩
  rw [show (8 * z.toBitVec.toNat + 4) / 8 = z.toBitVec.toNat by omega]
  apply Int64.toBitVec_inj.mp
  simp [Int64.ofNat]
theorem sx_V_i (z : Int32) : sx_V b ad rs (sx_i z) (.int z) := Or.inl ⟨(sx_i_ok z).1, by rw [(sx_i_ok z).2]⟩
theorem sx_bk_ok {o x y : Nat} {K : Nat → sx_R} (h : sx_bk o x y K = some outs) : ∃ v, K v = some outs ∧ v % 8 = 0 ∧ Int32.ofNat (v / 8) = sx_bf o (Int32.ofNat x) (Int32.ofNat y) ∧ (9 ≤ o → ¬ Int32.ofNat y = 0) := by
  unfold sx_bk at h
  cases h0 : Nat.beq o 0 with
  | true =>
    rw [h0, sx_if_t, sx_fo_eq] at h
    have := sx_beq h0
    subst this
    refine ⟨_, h, Nat.mul_mod_right 8 _, ?_, fun q => by omega⟩
    rw [show Nat.mul 8 (Nat.mod (Nat.add x y) 4294967296) / 8 = (x + y) % 4294967296 from Nat.mul_div_cancel_left _ (by decide)]
    show _ = Int32.ofNat x + Int32.ofNat y
    rw [← Int32.ofNat_add]
    apply sx_b_inj
    rw [sx_b_ofNat, sx_b_ofNat, sx_bs_eq, sx_bs_eq]
    omega
  | false =>
    rw [h0, sx_if_f] at h
    cases h9 : Nat.ble 9 o with
    | true =>
      rw [h9, sx_if_t] at h
      cases hz : Nat.beq (Nat.mod y 4294967296) 0 with
      | true => rw [hz, sx_if_t] at h; cases h
      | false =>
        rw [hz, sx_if_f, sx_fo_eq] at h
        refine ⟨_, h, (sx_i_ok _).1, (sx_i_ok _).2, fun _ q => ?_⟩
        have h2 : sx_b (Int32.ofNat y) = sx_b 0 := by rw [q]
        rw [sx_b_ofNat, sx_bs_eq, show sx_b 0 = 2147483648 from rfl] at h2
        have h3 : ¬ y % 4294967296 = 0 := sx_beq_f hz
        omega
    | false =>
      rw [h9, sx_if_f, sx_fo_eq] at h
      exact ⟨_, h, (sx_i_ok _).1, (sx_i_ok _).2, fun q => absurd (sx_ble_f h9) (by omega)⟩
theorem sx_fr_ok {lo hi pr off : Nat} {K : Nat → sx_Y → sx_R} {z : Int32} (h : sx_fr sy lo hi pr off K = some outs) (hy : sx_Yok rs sy) (h1 : lo ≤ sx_b z) (h2 : sx_b z ≤ hi) (h3 : pr ≠ 0 → ∃ y, rs[pr - 1]? = some y ∧ sx_b z = sx_b y + off) (h4 : pr = 0 → off = 0 := by first | exact fun _ => rfl | (intro h; cases h)) :
    ∃ v sy' rs', K v sy' = some outs ∧ rs <+: rs' ∧ sx_Yok rs' sy' ∧ sx_V b ad rs' v (.int z) := by
  unfold sx_fr at h
  simp only [sx_fo_eq] at h
  refine ⟨_, _, rs ++ [z], h, List.prefix_append _ _, hy.fr h1 h2 h3 h4, Or.inr (Or.inl ?_)⟩
  have e : Nat.add (Nat.mul 8 (List.length sy)) 1 = 8 * sy.length + 1 := rfl
  rw [e]
  refine ⟨by omega, z, ?_, rfl⟩
  rw [show (8 * sy.length + 1) / 8 = rs.length by rw [hy.1]; omega, List.getElem?_append_right (Nat.le_refl _), Nat.sub_self]
  rfl
/-- any int -/
theorem sx_any (z : Int32) : 0 ≤ sx_b z ∧ sx_b z ≤ 4294967295 := ⟨Nat.zero_le _, by have := sx_b_lt z; omega⟩
def sx_Bn (b : Nat → Nat) (ad : List Nat) (rs : List Int32) (outs : List sx_O) (K : Nat → sx_Y → sx_R) (o : Nat) (p q : Int32) : Prop :=
  ∃ v sy' rs' outs', K v sy' = some outs' ∧ (∀ o ∈ outs', o ∈ outs) ∧ rs <+: rs' ∧ sx_Yok rs' sy' ∧ sx_V b ad rs' v (.int (sx_bf o p q)) ∧ (9 ≤ o → ¬ q = 0)
theorem sx_Bn.fresh {o : Nat} {p q : Int32} {K : Nat → sx_Y → sx_R} {o1 : List sx_O} (h : sx_if (Nat.ble 9 o) none (sx_fr sy 0 4294967295 0 0 K) = some o1) (hy : sx_Yok rs sy) (hs : ∀ o ∈ o1, o ∈ outs) : sx_Bn b ad rs outs K o p q := by
  cases h9 : Nat.ble 9 o with
  | true => rw [h9, sx_if_t] at h; cases h
  | false =>
    rw [h9, sx_if_f] at h
    obtain ⟨v, s1, r1, a1, a2, a3, a4⟩ := sx_fr_ok (z := sx_bf o p q) h hy (sx_any _).1 (sx_any _).2 (fun h => absurd rfl h)
    exact ⟨v, s1, r1, o1, a1, hs, a2, a3, a4, fun q => absurd (sx_ble_f h9) (by omega)⟩
theorem sx_Bn.known {o x y : Nat} {p q : Int32} {K : Nat → sx_Y → sx_R} {o1 : List sx_O} (h : sx_bk o (sx_pl x) (sx_pl y) (fun v => K v sy) = some o1) (hy : sx_Yok rs sy) (hx : x % 8 = 0) (hy0 : y % 8 = 0) (hvx : sx_V b ad rs x (.int p)) (hvy : sx_V b ad rs y (.int q)) (hs : ∀ o ∈ o1, o ∈ outs) : sx_Bn b ad rs outs K o p q := by
  cases hvx.t0 hx
  cases hvy.t0 hy0
  obtain ⟨v, a1, a2, a3, a4⟩ := sx_bk_ok h
  exact ⟨v, sy, rs, o1, a1, hs, List.prefix_rfl, hy, Or.inl ⟨a2, by rw [a3]; rfl⟩, a4⟩
theorem sx_bm_ok {o x y : Nat} {p q : Int32} {K : Nat → sx_Y → sx_R} (h : sx_bm o x y sy K = some outs) (hy : sx_Yok rs sy) (hvx : sx_V b ad rs x (.int p)) (hvy : sx_V b ad rs y (.int q)) : sx_Bn b ad rs outs K o p q := by
  unfold sx_bm at h
  cases h1 : Nat.beq (sx_tg x) 1 with
  | true =>
    rw [h1, sx_if_t] at h
    obtain ⟨e, he, h⟩ := sx_opt_ok (show _ = some outs from h)
    rw [sx_nth_eq] at he
    obtain ⟨z, hz, hzp⟩ := hvx.t1 (sx_beq h1)
    cases hzp
    obtain ⟨r1, r2, -⟩ := hy.2 _ p e hz he
    cases h2 : Nat.ble e.2.1 (Nat.add e.1 64) with
    | true =>
      rw [h2, sx_if_t] at h
      obtain ⟨s1, o1, a1, a2, a3, a4, a5⟩ := sx_en_ok h hy hz r1 r2
      obtain ⟨x', a1, hx', -⟩ := sx_nm_ok a1 a3 hvx
      obtain ⟨y', a1, hy', -⟩ := sx_nm_ok a1 a3 hvy
      obtain ⟨c1, a1⟩ := sx_if_ok a1
      cases c2 : Nat.beq (sx_tg y') 0 with
      | true =>
        rw [c2, sx_if_t] at a1
        exact sx_Bn.known a1 a3 (sx_beq c1) (sx_beq c2) hx' hy' a2
      | false =>
        rw [c2, sx_if_f] at a1
        obtain ⟨-, a1⟩ := sx_if_ok a1
        exact sx_Bn.fresh a1 a3 a2
    | false =>
      rw [h2, sx_if_f] at h
      obtain ⟨-, h⟩ := sx_if_ok h
      exact sx_Bn.fresh h hy (fun _ h => h)
  | false =>
    rw [h1, sx_if_f] at h
    obtain ⟨c0, h⟩ := sx_if_ok h
    obtain ⟨c1, h⟩ := sx_if_ok h
    obtain ⟨e, he, h⟩ := sx_opt_ok (show _ = some outs from h)
    rw [sx_nth_eq] at he
    obtain ⟨z, hz, hzp⟩ := hvy.t1 (sx_beq c1)
    cases hzp
    obtain ⟨r1, r2, -⟩ := hy.2 _ q e hz he
    cases h2 : Nat.ble e.2.1 (Nat.add e.1 64) with
    | true =>
      rw [h2, sx_if_t] at h
      obtain ⟨s1, o1, a1, a2, a3, a4, a5⟩ := sx_en_ok h hy hz r1 r2
      obtain ⟨y', a1, hy', -⟩ := sx_nm_ok a1 a3 hvy
      obtain ⟨c2, a1⟩ := sx_if_ok a1
      exact sx_Bn.known a1 a3 (sx_beq c0) (sx_beq c2) hvx hy' a2
    | false =>
      rw [h2, sx_if_f] at h
      exact sx_Bn.fresh h hy (fun _ h => h)
/-- a mask that isn't negative -/
theorem sx_mask (p q : Int32) (x : Nat) (hx : x < 2147483648) (hq : q = Int32.ofNat x) : 2147483648 ≤ sx_b (p &&& q) ∧ sx_b (p &&& q) ≤ 2147483648 + x := by
  have h1 : (p &&& q).toBitVec.toNat = p.toBitVec.toNat &&& x := by
    rw [hq, Int32.toBitVec_and, BitVec.toNat_and]
    congr 1
    exact pk_tn (n := x) (by omega)
  have h2 : (p &&& q).toBitVec.toNat ≤ x := by rw [h1]; exact Nat.and_le_right
  have h3 : p &&& q = Int32.ofNat (p &&& q).toBitVec.toNat := (sx_tn_back _).symm
  rw [h3, sx_b_ofNat, sx_bs_eq]
  omega
theorem sx_and_comm (p q : Int32) : p &&& q = q &&& p := by
  apply Int32.toBitVec_inj.mp
  simp only [Int32.toBitVec_and]
  exact BitVec.and_comm _ _
theorem sx_bin_ok {o x y : Nat} {p q : Int32} {K : Nat → sx_Y → sx_R} (h : sx_bin o x y sy K = some outs) (hy : sx_Yok rs sy) (hvx : sx_V b ad rs x (.int p)) (hvy : sx_V b ad rs y (.int q)) : sx_Bn b ad rs outs K o p q := by
  unfold sx_bin at h
  obtain ⟨x', h, hx', -⟩ := sx_nm_ok h hy hvx
  obtain ⟨y', h, hy', -⟩ := sx_nm_ok h hy hvy
  cases h0 : Nat.beq (sx_tg x') 0 with
  | true =>
    rw [h0, sx_if_t] at h
    cases g0 : Nat.beq (sx_tg y') 0 with
    | true =>
      rw [g0, sx_if_t] at h
      exact sx_Bn.known h hy (sx_beq h0) (sx_beq g0) hx' hy' (fun _ h => h)
    | false =>
      rw [g0, sx_if_f] at h
      cases c3 : Nat.beq o 3 with
      | false => rw [c3, sx_if_f] at h; exact sx_bm_ok h hy hx' hy'
      | true =>
        rw [c3, sx_if_t] at h
        have ho := sx_beq c3
        cases c4 : Nat.blt (sx_pl x') 2147483648 with
        | false => rw [c4, sx_if_f] at h; exact sx_bm_ok h hy hx' hy'
        | true =>
          rw [c4, sx_if_t] at h
          obtain ⟨-, h⟩ := sx_if_ok h
          have e0 : p = Int32.ofNat (x' / 8) := by have := hx'.t0 (sx_beq h0); cases this; rfl
          obtain ⟨r1, r2⟩ := sx_mask q p (x' / 8) (sx_blt c4) e0
          rw [ho]
          obtain ⟨v, s1, rs1, a1, a2, a3, a4⟩ := sx_fr_ok (z := q &&& p) h hy r1 r2 (fun h => absurd rfl h)
          exact ⟨v, s1, rs1, outs, a1, fun _ h => h, a2, a3, by rw [sx_and_comm q p] at a4; exact a4, fun q => by omega⟩
  | false =>
    rw [h0, sx_if_f] at h
    cases g0 : Nat.beq (sx_tg y') 0 with
    | false => rw [g0, sx_if_f] at h; exact sx_bm_ok h hy hx' hy'
    | true =>
      rw [g0, sx_if_t] at h
      obtain ⟨t1, h⟩ := sx_if_ok h
      have e0 : q = Int32.ofNat (y' / 8) := by have := hy'.t0 (sx_beq g0); cases this; rfl
      cases c3 : Nat.beq o 3 with
      | true =>
        rw [c3, sx_if_t] at h
        have ho := sx_beq c3
        cases c4 : Nat.blt (sx_pl y') 2147483648 with
        | false => rw [c4, sx_if_f] at h; exact sx_bm_ok h hy hx' hy'
        | true =>
          rw [c4, sx_if_t] at h
          obtain ⟨r1, r2⟩ := sx_mask p q (y' / 8) (sx_blt c4) e0
          rw [ho]
          obtain ⟨v, s1, rs1, a1, a2, a3, a4⟩ := sx_fr_ok (z := p &&& q) h hy r1 r2 (fun h => absurd rfl h)
          exact ⟨v, s1, rs1, outs, a1, fun _ h => h, a2, a3, a4, fun q => by omega⟩
      | false =>
        rw [c3, sx_if_f] at h
        cases c5 : Nat.beq o 0 with
        | false => rw [c5, sx_if_f] at h; exact sx_bm_ok h hy hx' hy'
        | true =>
          rw [c5, sx_if_t] at h
          have ho := sx_beq c5
          obtain ⟨e, he, h⟩ := sx_opt_ok (show _ = some outs from h)
          rw [sx_nth_eq] at he
          obtain ⟨z, hz, hzp⟩ := hx'.t1 (sx_beq t1)
          cases hzp
          obtain ⟨r1, r2, -⟩ := hy.2 _ p e hz he
          cases c6 : Nat.blt (Nat.add e.2.1 (sx_pl y')) 4294967296 with
          | false => rw [c6, sx_if_f] at h; exact sx_bm_ok h hy hx' hy'
          | true =>
            rw [c6, sx_if_t] at h
            have hlt : e.2.1 + y' / 8 < 4294967296 := sx_blt c6
            have hs : sx_b (p + q) = sx_b p + y' / 8 := by
              have h1 := sx_b_back p
              rw [e0]
              conv => lhs; rw [← h1]
              rw [← Int32.ofNat_add, sx_b_ofNat, sx_bs_eq, sx_bs_eq]
              have := sx_b_lt p
              omega
            rw [ho]
            obtain ⟨v, s1, rs1, a1, a2, a3, a4⟩ := sx_fr_ok (z := p + q) h hy (by rw [hs]; exact Nat.add_le_add_right r1 _) (by rw [hs]; exact Nat.add_le_add_right r2 _) (fun _ => ⟨p, hz, hs⟩)
            exact ⟨v, s1, rs1, outs, a1, fun _ h => h, a2, a3, a4, fun q => by omega⟩
theorem sx_bin2_ok {o x y : Nat} {p q : Int32} {K : Nat → sx_Y → sx_R} (h : sx_bin2 o x y sy K = some outs) (hy : sx_Yok rs sy) (hvx : sx_V b ad rs x (.int p)) (hvy : sx_V b ad rs y (.int q)) : sx_Bn b ad rs outs K o p q := by
  unfold sx_bin2 at h
  cases hc : sx_and (Nat.beq o 3) (sx_and (Nat.beq y 504) (Nat.beq x 1)) with
  | false => rw [hc, sx_if_f] at h; exact sx_bin_ok h hy hvx hvy
  | true =>
    rw [hc, sx_if_t, sx_nth_eq] at h
    obtain ⟨en, hen, h'⟩ := sx_opt_ok h
    clear h
    have h := h'
    clear h'
    cases hd : sx_and (Nat.beq en.2.2.1 0) (Nat.blt 0 en.2.2.2) with
    | false => rw [hd, sx_if_f] at h; exact sx_bin_ok h hy hvx hvy
    | true =>
      rw [hd, sx_if_t, sx_fo_eq] at h
      have hK := h
      clear h
      obtain ⟨c1, c2⟩ := sx_and_ok hc
      obtain ⟨c2, c3⟩ := sx_and_ok c2
      have c1 := sx_beq c1
      have c2 := sx_beq c2
      have c3 := sx_beq c3
      subst c1 c2 c3
      obtain ⟨d1, d2⟩ := sx_and_ok hd
      have d1 := sx_beq d1
      have d2 : 0 < en.2.2.2 := sx_blt d2
      obtain ⟨z, hz, e1⟩ := hvx.t1 (by decide)
      cases e1
      have e2 := hvy.t0 (by decide)
      cases e2
      have hm := (hy.2 0 p en hz hen).2.2.2 d1 (by omega)
      refine ⟨_, _, rs, outs, hK, fun _ h => h, List.prefix_rfl, hy, Or.inl ⟨?_, ?_⟩, fun h => by omega⟩
      · show 8 * (en.2.2.2 - 1) % 8 = 0
        omega
      · show Value.int (sx_bf 3 p (Int32.ofNat 63)) = Value.int (Int32.ofNat (8 * (en.2.2.2 - 1) / 8))
        rw [show 8 * (en.2.2.2 - 1) / 8 = en.2.2.2 - 1 by omega, ← hm]
        rfl
end SXArith
