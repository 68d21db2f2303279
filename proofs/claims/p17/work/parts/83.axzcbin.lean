/-! ax: sums, products, bits, case by case -/
section AXBin2
variable {ρ : List Nat} {Y : ax_Y} {n : Nat} {F : ax_F} {x y xl xh yl yh : Nat} {outs : List ax_O} {K : Nat → ax_Y → Nat → ax_R} {P Q : Int32}
theorem ax_J.ob {a z : Nat} (h : ax_J ρ a z) (hY : ax_Yk ρ Y n) (t : a % 8 = 1) : ∃ r, ρ[ax_k a]? = some r ∧ z + 8589934592 = r + ax_o a ∧ r < 4294967296 := by
  obtain ⟨r, h1, h2⟩ := h.t1 t
  obtain ⟨e, -, h3⟩ := hY.at h1
  exact ⟨r, h1, h2, h3.2.1⟩
/-- so much more -/
theorem ax_J.up {a z m z' : Nat} (h : ax_J ρ a z) (hY : ax_Yk ρ Y n) (t : a % 8 = 1) (hz : z' + 2147483648 = z + m) (hz' : z' < 4294967296) : ax_J ρ (a + 524288 * m - 1125899906842624) z' := by
  obtain ⟨r, h1, h2, h3⟩ := h.ob hY t
  rw [ax_o_eq] at h2
  refine ⟨hz', Or.inr ⟨by omega, r, ?_, ?_⟩⟩
  · rw [show ax_k (a + 524288 * m - 1125899906842624) = ax_k a by rw [ax_k_eq, ax_k_eq]; omega]
    exact h1
  · rw [ax_o_eq]
    omega
theorem ax_J.dn {a z m z' : Nat} (h : ax_J ρ a z) (hY : ax_Yk ρ Y n) (t : a % 8 = 1) (hz : z' + m = z + 2147483648) (hz' : z' < 4294967296) (hm : m < 4294967296) : ax_J ρ (a + 1125899906842624 - 524288 * m) z' := by
  obtain ⟨r, h1, h2, h3⟩ := h.ob hY t
  rw [ax_o_eq] at h2
  refine ⟨hz', Or.inr ⟨by omega, r, ?_, ?_⟩⟩
  · rw [show ax_k (a + 1125899906842624 - 524288 * m) = ax_k a by rw [ax_k_eq, ax_k_eq]; omega]
    exact h1
  · rw [ax_o_eq]
    omega
theorem ax_up_eq (a m : Nat) : Nat.sub (Nat.add a (Nat.mul 524288 m)) 1125899906842624 = a + 524288 * m - 1125899906842624 := rfl
theorem ax_dn_eq (a m : Nat) : Nat.sub (Nat.add a 1125899906842624) (Nat.mul 524288 m) = a + 1125899906842624 - 524288 * m := rfl
theorem ax_andt {a b : Bool} (h : sx_and a b = true) : a = true ∧ b = true := sx_and_ok h
theorem ax_bs2_0 (h : ax_bs2 0 x y xl xh yl yh F Y n K = some outs) (hY : ax_Yk ρ Y n) (hx : ax_J ρ x (sx_b P)) (hy : ax_J ρ y (sx_b Q)) (hn : ¬ (x % 8 = 0 ∧ y % 8 = 0)) (x1 : xl ≤ sx_b P) (x2 : sx_b P ≤ xh) (x0 : x % 8 = 0 → xl = sx_b P ∧ xh = sx_b P) (y1 : yl ≤ sx_b Q) (y2 : sx_b Q ≤ yh) (y0 : y % 8 = 0 → yl = sx_b Q ∧ yh = sx_b Q) : ax_Got ρ outs K (sx_b (P + Q)) := by
  have h : sx_if (sx_and (Nat.ble 2147483648 (Nat.add xl yl)) (Nat.blt (Nat.add xh yh) 6442450944)) _ (ax_any Y n K) = some outs := h
  rcases ax_if h with ⟨c, h⟩ | ⟨-, h⟩
  · obtain ⟨c1, c2⟩ := sx_and_ok c
    have c1 : 2147483648 ≤ xl + yl := sx_ble c1
    have c2 : xh + yh < 6442450944 := sx_blt c2
    have e := ax_b_add (P := P) (Q := Q) (by omega) (by omega)
    have lt := sx_b_lt (P + Q)
    rcases ax_if h with ⟨c, h⟩ | ⟨c, h⟩
    · have c : y % 8 = 0 := sx_beq c
      have y0 := y0 c
      rw [sx_fo_eq, ax_up_eq] at h
      rcases hx.tag with t | t
      · exact absurd ⟨t, c⟩ hn
      · exact ax_Got.here h hY (hx.up hY t (by omega) lt)
    · have c : ¬ y % 8 = 0 := sx_beq_f c
      have ty : y % 8 = 1 := by have := hy.tag; omega
      rcases ax_if h with ⟨d, h⟩ | ⟨d, h⟩
      · have d : x % 8 = 0 := sx_beq d
        have x0 := x0 d
        rw [sx_fo_eq, ax_up_eq] at h
        exact ax_Got.here h hY (hy.up hY ty (by omega) lt)
      · refine ax_fn_ok h hY ?_ ?_
        · refine ⟨⟨by show xl + yl - 2147483648 ≤ _; omega, by show _ ≤ xh + yh - 2147483648; omega⟩, lt, fun q => by simp at q, fun _ => ⟨_, _, hx, hy, by omega⟩, fun q => by simp at q, fun q => by simp at q, fun q => by simp at q, fun q => by simp at q, fun q => by simp at q⟩
        · intro r' e' hE _ q1 q2 q3
          obtain ⟨u, v, hu, hv, hs⟩ := hE.2.2.2.1 q1
          rw [q2] at hu
          rw [q3] at hv
          have := hu.uniq hx
          have := hv.uniq hy
          omega
  · exact ax_Got.any h hY (sx_b_lt _)
theorem ax_bs2_1 (h : ax_bs2 1 x y xl xh yl yh F Y n K = some outs) (hY : ax_Yk ρ Y n) (hF : ax_Fk ρ F) (hx : ax_J ρ x (sx_b P)) (hy : ax_J ρ y (sx_b Q)) (hn : ¬ (x % 8 = 0 ∧ y % 8 = 0)) (x1 : xl ≤ sx_b P) (x2 : sx_b P ≤ xh) (y1 : yl ≤ sx_b Q) (y2 : sx_b Q ≤ yh) (y0 : y % 8 = 0 → yl = sx_b Q ∧ yh = sx_b Q) : ax_Got ρ outs K (sx_b (P - Q)) := by
  have h : sx_if (sx_and (Nat.ble yh (Nat.add xl 2147483648)) (Nat.blt (Nat.add xh 2147483648) (Nat.add yl 4294967296))) _ (ax_any Y n K) = some outs := h
  rcases ax_if h with ⟨c, h⟩ | ⟨-, h⟩
  · obtain ⟨c1, c2⟩ := sx_and_ok c
    have c1 : yh ≤ xl + 2147483648 := sx_ble c1
    have c2 : xh + 2147483648 < yl + 4294967296 := sx_blt c2
    have e := ax_b_sub (P := P) (Q := Q) (by omega) (by omega)
    have lt := sx_b_lt (P - Q)
    have lq := sx_b_lt Q
    rcases ax_if h with ⟨c, h⟩ | ⟨c, h⟩
    · have c : y % 8 = 0 := sx_beq c
      have y0 := y0 c
      rw [sx_fo_eq, ax_dn_eq] at h
      rcases hx.tag with t | t
      · exact absurd ⟨t, c⟩ hn
      · exact ax_Got.here h hY (hx.dn hY t (by omega) lt (by omega))
    · have c : ¬ y % 8 = 0 := sx_beq_f c
      have ty : y % 8 = 1 := by have := hy.tag; omega
      rcases ax_if h with ⟨d, h⟩ | ⟨d, h⟩
      · obtain ⟨d1, d2⟩ := sx_and_ok d
        have d1 : x % 8 = 1 := sx_beq d1
        have d2 : ax_k x = ax_k y := sx_beq d2
        obtain ⟨r, r1, r2⟩ := hx.t1 d1
        obtain ⟨s, s1, s2⟩ := hy.t1 ty
        rw [d2] at r1
        cases r1.symm.trans s1
        rw [sx_fo_eq] at h
        refine ax_Got.here h hY ?_
        have e0 : Nat.sub (Nat.add (ax_o x) 2147483648) (ax_o y) = sx_b (P - Q) := by
          show ax_o x + 2147483648 - ax_o y = _
          omega
        rw [e0]
        exact ax_J.num lt
      · rw [sx_fo_eq, sx_fo_eq] at h
        have hl : sx_if (sx_if (ax_le F Y n y 0 40 x) true (ax_mk false Y n x (fun ox ax _ => ax_mk false Y n y (fun oy ay _ => sx_and (Nat.beq ox 4) (sx_and (Nat.beq oy 4) (ax_sub Y ax ay)))))) (sx_mx (Nat.sub (Nat.add xl 2147483648) yh) 2147483648) (Nat.sub (Nat.add xl 2147483648) yh) ≤ sx_b (P - Q) := by
          have hlo : Nat.sub (Nat.add xl 2147483648) yh ≤ sx_b (P - Q) := by
            show xl + 2147483648 - yh ≤ _
            omega
          have main : sx_b Q ≤ sx_b P → sx_mx (Nat.sub (Nat.add xl 2147483648) yh) 2147483648 ≤ sx_b (P - Q) := fun q => ax_mx_le hlo (by omega)
          cases hc : sx_if (ax_le F Y n y 0 40 x) true (ax_mk false Y n x (fun ox ax _ => ax_mk false Y n y (fun oy ay _ => sx_and (Nat.beq ox 4) (sx_and (Nat.beq oy 4) (ax_sub Y ax ay))))) with
          | false => rw [sx_if_f]; exact hlo
          | true =>
            rw [sx_if_t]
            apply main
            rcases ax_or hc with q | q
            · have := ax_le_ok hY hF hy hx q
              omega
            · rcases ax_mk_ok (df := false) (G := fun ox ax _ => ax_mk false Y n y (fun oy ay _ => sx_and (Nat.beq ox 4) (sx_and (Nat.beq oy 4) (ax_sub Y ax ay)))) hY hx with g | ⟨e1, g, E1⟩
              · rw [g] at q; cases q
              · rw [g] at q
                rcases ax_mk_ok (df := false) (G := fun oy ay _ => sx_and (Nat.beq e1.2.2.2.1 4) (sx_and (Nat.beq oy 4) (ax_sub Y e1.2.2.2.2.1 ay))) hY hy with g | ⟨e2, g, E2⟩
                · rw [g] at q; cases q
                · rw [g] at q
                  obtain ⟨q1, q2⟩ := sx_and_ok q
                  obtain ⟨q2, q3⟩ := sx_and_ok q2
                  obtain ⟨u, hu, u1, u2, u3⟩ := E1.2.2.2.2.2.2.1 (sx_beq q1)
                  obtain ⟨v, hv, v1, v2, v3⟩ := E2.2.2.2.2.2.2.1 (sx_beq q2)
                  obtain ⟨e3, m3, k1, k2, k3, k4, k5⟩ := ax_sub_ok q3
                  obtain ⟨r, E3⟩ := hY.mem m3
                  obtain ⟨a, b, ha, hb, hab⟩ := E3.2.2.2.2.2.1 k1
                  rw [k2] at ha
                  rw [k3] at hb
                  have ea := ha.uniq hv
                  have eb := hb.uniq hu
                  subst ea eb
                  have hr : r = 2147483648 := by have := E3.1; omega
                  rw [hr, show sx_bs 2147483648 = 0 from rfl, show sx_bs b = b - 2147483648 by rw [ax_bs_eq]; omega, show sx_bs a = a - 2147483648 by rw [ax_bs_eq]; omega] at hab
                  have := ax_pc_le (by omega) hab.symm
                  omega
        refine ax_fn_ok h hY ?_ ?_
        · refine ⟨⟨hl, by show _ ≤ xh + 2147483648 - yl; omega⟩, lt, fun q => by simp at q, fun q => by simp at q, fun _ => ⟨_, _, hx, hy, by omega⟩, fun q => by simp at q, fun q => by simp at q, fun q => by simp at q, fun q => by simp at q⟩
        · intro r' e' hE _ q1 q2 q3
          obtain ⟨u, v, hu, hv, hs⟩ := hE.2.2.2.2.1 q1
          rw [q2] at hu
          rw [q3] at hv
          have := hu.uniq hx
          have := hv.uniq hy
          omega
  · exact ax_Got.any h hY (sx_b_lt _)
end AXBin2
