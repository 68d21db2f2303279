/-! ax: products, bits, shifts, quotients; all operations -/
section AXBin3
variable {ρ : List Nat} {Y : ax_Y} {n : Nat} {F : ax_F} {x y xl xh yl yh : Nat} {outs : List ax_O} {K : Nat → ax_Y → Nat → ax_R} {P Q : Int32}
theorem ax_mul_le {a b c d : Nat} (h1 : a ≤ b) (h2 : c ≤ d) : a * c ≤ b * d := Nat.mul_le_mul h1 h2
theorem ax_bs2_2 (h : ax_bs2 2 x y xl xh yl yh F Y n K = some outs) (hY : ax_Yk ρ Y n) (x1 : xl ≤ sx_b P) (x2 : sx_b P ≤ xh) (y1 : yl ≤ sx_b Q) (y2 : sx_b Q ≤ yh) : ax_Got ρ outs K (sx_b (P * Q)) := by
  have h : sx_if (sx_and (sx_and (Nat.ble 2147483648 xl) (Nat.ble 2147483648 yl)) (Nat.blt (Nat.mul (Nat.sub xh 2147483648) (Nat.sub yh 2147483648)) 2147483648)) _ (ax_any Y n K) = some outs := h
  rcases ax_if h with ⟨c, h⟩ | ⟨-, h⟩
  · obtain ⟨c1, c3⟩ := sx_and_ok c
    obtain ⟨c1, c2⟩ := sx_and_ok c1
    have c1 := sx_ble c1
    have c2 := sx_ble c2
    have c3 : (xh - 2147483648) * (yh - 2147483648) < 2147483648 := sx_blt c3
    obtain ⟨p, -, -, hp⟩ := ax_b_pos (P := P) (by omega)
    obtain ⟨q, -, -, hq⟩ := ax_b_pos (P := Q) (by omega)
    have m1 : p * q ≤ (xh - 2147483648) * (yh - 2147483648) := ax_mul_le (by omega) (by omega)
    have m2 : (xl - 2147483648) * (yl - 2147483648) ≤ p * q := ax_mul_le (by omega) (by omega)
    have e := ax_b_mul hp hq (Nat.lt_of_le_of_lt m1 c3)
    refine ax_fn_plain h hY ?_ ?_ (sx_b_lt _)
    · show 2147483648 + (xl - 2147483648) * (yl - 2147483648) ≤ _
      omega
    · show _ ≤ 2147483648 + (xh - 2147483648) * (yh - 2147483648)
      omega
  · exact ax_Got.any h hY (sx_b_lt _)
theorem ax_bs2_3 (h : ax_bs2 3 x y xl xh yl yh F Y n K = some outs) (hY : ax_Yk ρ Y n) (hx : ax_J ρ x (sx_b P)) (hy : ax_J ρ y (sx_b Q)) (x1 : xl ≤ sx_b P) (x2 : sx_b P ≤ xh) (y1 : yl ≤ sx_b Q) (y2 : sx_b Q ≤ yh) : ax_Got ρ outs K (sx_b (P &&& Q)) := by
  have h : sx_if (Nat.ble 2147483648 xl) _ _ = some outs := h
  rcases ax_if h with ⟨c, h⟩ | ⟨-, h⟩
  · have c := sx_ble c
    obtain ⟨a1, a2⟩ := ax_b_and1 (P := P) (Q := Q) (by omega)
    rcases ax_if h with ⟨d, h⟩ | ⟨-, h⟩
    · have d := sx_ble d
      obtain ⟨b1, b2⟩ := ax_b_and2 (P := P) (Q := Q) (by omega)
      exact ax_fn_plain h hY a1 (ax_mn_le (by omega) (by omega)) (sx_b_lt _)
    · have pl : ax_fn Y n 2147483648 xh 0 0 0 K = some outs → ax_Got ρ outs K (sx_b (P &&& Q)) := fun h => ax_fn_plain h hY a1 (by omega) (sx_b_lt _)
      rcases ax_mk_ok (df := ax_fn Y n 2147483648 xh 0 0 0 K) (G := fun oy ay _ => sx_if (Nat.beq oy 5) (ax_fn Y n 2147483648 xh 3 x ay K) (ax_fn Y n 2147483648 xh 0 0 0 K)) hY hy with g | ⟨e, g, E⟩
      · rw [g] at h; exact pl h
      · rw [g] at h
        rcases ax_if h with ⟨d, h⟩ | ⟨-, h⟩
        · obtain ⟨w, hw, ew⟩ := E.2.2.2.2.2.2.2.1 (sx_beq d)
          have key : sx_bs (sx_b (P &&& Q)) = sx_bs (sx_b P) &&& (4294967295 - sx_bs w) := by
            rw [ax_bs_b, ax_bs_b, ax_tn_and]
            have t := ax_b_tn Q
            have l := Q.toBitVec.isLt
            rw [show 4294967295 - sx_bs w = Q.toBitVec.toNat by rw [ax_bs_eq]; omega]
          refine ax_fn_ok h hY ?_ ?_
          · exact ⟨⟨a1, by show _ ≤ xh; omega⟩, sx_b_lt _, fun q => by simp at q, fun q => by simp at q, fun q => by simp at q, fun _ => ⟨_, _, hx, hw, key⟩, fun q => by simp at q, fun q => by simp at q, fun q => by simp at q⟩
          · intro r' e' hE _ q1 q2 q3
            obtain ⟨u, v, hu, hv, hs⟩ := hE.2.2.2.2.2.1 q1
            rw [q2] at hu
            rw [q3] at hv
            have eu := hu.uniq hx
            have ev := hv.uniq hw
            subst eu ev
            have := hs.trans key.symm
            have r1 := hE.2.1
            have r2 := sx_b_lt (P &&& Q)
            rw [ax_bs_eq, ax_bs_eq] at this
            omega
        · exact pl h
  · rcases ax_if h with ⟨d, h⟩ | ⟨-, h⟩
    · have d := sx_ble d
      obtain ⟨b1, b2⟩ := ax_b_and2 (P := P) (Q := Q) (by omega)
      exact ax_fn_plain h hY b1 (by omega) (sx_b_lt _)
    · exact ax_Got.any h hY (sx_b_lt _)
theorem ax_pw_ok {m u v : Nat} (hu : u ≤ m) (hv : v ≤ m) : ∃ k, ax_pw m + 1 = 2 ^ k ∧ u < 2 ^ k ∧ v < 2 ^ k := by
  unfold ax_pw
  cases h0 : Nat.beq m 0 with
  | true =>
    have := sx_beq h0
    exact ⟨0, rfl, by show u < 1; omega, by show v < 1; omega⟩
  | false =>
    have h0 := sx_beq_f h0
    refine ⟨Nat.log2 m + 1, ?_, ax_pow_log hu, ax_pow_log hv⟩
    show 2 ^ (Nat.log2 m + 1) - 1 + 1 = _
    have := Nat.two_pow_pos (Nat.log2 m + 1)
    omega
theorem ax_le_mx {a b : Nat} : a ≤ sx_mx a b ∧ b ≤ sx_mx a b := by rw [sx_mx_eq]; omega
theorem ax_bs2_45 (h : sx_if (sx_and (Nat.ble 2147483648 xl) (Nat.ble 2147483648 yl)) (sx_fo (Nat.add 2147483648 (ax_pw (sx_mx (Nat.sub xh 2147483648) (Nat.sub yh 2147483648)))) (fun hi => ax_fn Y n 2147483648 hi 0 0 0 K)) (ax_any Y n K) = some outs) (hY : ax_Yk ρ Y n) (x1 : xl ≤ sx_b P) (x2 : sx_b P ≤ xh) (y1 : yl ≤ sx_b Q) (y2 : sx_b Q ≤ yh) : ax_Got ρ outs K (sx_b (P ||| Q)) ∧ ax_Got ρ outs K (sx_b (P ^^^ Q)) := by
  rcases ax_if h with ⟨c, h⟩ | ⟨-, h⟩
  · obtain ⟨c1, c2⟩ := sx_and_ok c
    have c1 := sx_ble c1
    have c2 := sx_ble c2
    have ml := @ax_le_mx (Nat.sub xh 2147483648) (Nat.sub yh 2147483648)
    have u1 : sx_b P - 2147483648 ≤ Nat.sub xh 2147483648 := Nat.sub_le_sub_right x2 _
    have u2 : sx_b Q - 2147483648 ≤ Nat.sub yh 2147483648 := Nat.sub_le_sub_right y2 _
    obtain ⟨k, k1, k2, k3⟩ := ax_pw_ok (Nat.le_trans u1 ml.1) (Nat.le_trans u2 ml.2)
    obtain ⟨⟨a1, a2⟩, b1, b2⟩ := ax_b_or (P := P) (Q := Q) (by omega) (by omega) k2 k3
    rw [sx_fo_eq] at h
    refine ⟨ax_fn_plain h hY a1 ?_ (sx_b_lt _), ax_fn_plain h hY b1 ?_ (sx_b_lt _)⟩
    · show _ ≤ 2147483648 + ax_pw (sx_mx (Nat.sub xh 2147483648) (Nat.sub yh 2147483648))
      omega
    · show _ ≤ 2147483648 + ax_pw (sx_mx (Nat.sub xh 2147483648) (Nat.sub yh 2147483648))
      omega
  · exact ⟨ax_Got.any h hY (sx_b_lt _), ax_Got.any h hY (sx_b_lt _)⟩
theorem ax_bs2_5 (h : ax_bs2 5 x y xl xh yl yh F Y n K = some outs) (hY : ax_Yk ρ Y n) (hx : ax_J ρ x (sx_b P)) (hy : ax_J ρ y (sx_b Q)) (x1 : xl ≤ sx_b P) (x2 : sx_b P ≤ xh) (y1 : yl ≤ sx_b Q) (y2 : sx_b Q ≤ yh) : ax_Got ρ outs K (sx_b (P ^^^ Q)) := by
  have h : sx_if (sx_and (Nat.beq 5 5) (Nat.beq y 34359738360)) _ _ = some outs := h
  rcases ax_if h with ⟨c, h⟩ | ⟨-, h⟩
  · obtain ⟨-, c⟩ := sx_and_ok c
    have c := sx_beq c
    have q : Q = Int32.ofNat 4294967295 := by
      have := (hy.i0 (by rw [c])).2
      rw [← this, c]
    have e := ax_b_not P
    rw [← q] at e
    refine ax_fn_ok h hY ?_ ?_
    · exact ⟨⟨by show 4294967295 - xh ≤ _; omega, by show _ ≤ 4294967295 - xl; omega⟩, sx_b_lt _, fun q => by simp at q, fun q => by simp at q, fun q => by simp at q, fun q => by simp at q, fun q => by simp at q, fun _ => ⟨_, hx, e⟩, fun q => by simp at q⟩
    · intro r' e' hE _ q1 q2 _
      obtain ⟨u, hu, hs⟩ := hE.2.2.2.2.2.2.2.1 q1
      rw [q2] at hu
      have eu := hu.uniq hx
      omega
  · exact (ax_bs2_45 h hY x1 x2 y1 y2).2
theorem ax_shl_le {a b c d : Nat} (h1 : a ≤ b) (h2 : c ≤ d) : a <<< c ≤ b <<< d := by
  rw [Nat.shiftLeft_eq, Nat.shiftLeft_eq]
  exact Nat.mul_le_mul h1 (Nat.pow_le_pow_right (by decide) h2)
theorem ax_shr_le {a b c d : Nat} (h1 : a ≤ b) (h2 : d ≤ c) : a >>> c ≤ b >>> d := by
  rw [Nat.shiftRight_eq_div_pow, Nat.shiftRight_eq_div_pow]
  exact Nat.div_le_div h1 (Nat.pow_le_pow_right (by decide) h2) (Nat.ne_of_gt (Nat.two_pow_pos _))
theorem ax_bs2_6 (h : ax_bs2 6 x y xl xh yl yh F Y n K = some outs) (hY : ax_Yk ρ Y n) (x1 : xl ≤ sx_b P) (x2 : sx_b P ≤ xh) (y1 : yl ≤ sx_b Q) (y2 : sx_b Q ≤ yh) : ax_Got ρ outs K (sx_b (P <<< (Q &&& 31))) := by
  have h : sx_if (sx_and (sx_and (Nat.ble 2147483648 xl) (Nat.ble 2147483648 yl)) (sx_and (Nat.ble yh 2147483678) (Nat.blt (Nat.shiftLeft (Nat.sub xh 2147483648) (Nat.sub yh 2147483648)) 2147483648))) _ (ax_any Y n K) = some outs := h
  rcases ax_if h with ⟨c, h⟩ | ⟨-, h⟩
  · obtain ⟨c1, c3⟩ := sx_and_ok c
    obtain ⟨c1, c2⟩ := sx_and_ok c1
    obtain ⟨c3, c4⟩ := sx_and_ok c3
    have c1 := sx_ble c1
    have c2 := sx_ble c2
    have c3 := sx_ble c3
    have c4 : (xh - 2147483648) <<< (yh - 2147483648) < 2147483648 := sx_blt c4
    obtain ⟨p, -, -, hp⟩ := ax_b_pos (P := P) (by omega)
    obtain ⟨q, -, -, hq⟩ := ax_b_pos (P := Q) (by omega)
    have m1 : p <<< q ≤ (xh - 2147483648) <<< (yh - 2147483648) := ax_shl_le (by omega) (by omega)
    have m2 : (xl - 2147483648) <<< (yl - 2147483648) ≤ p <<< q := ax_shl_le (by omega) (by omega)
    have e := ax_b_shl hp hq (by omega) (Nat.lt_of_le_of_lt m1 c4)
    refine ax_fn_plain h hY ?_ ?_ (sx_b_lt _)
    · show 2147483648 + (xl - 2147483648) <<< (yl - 2147483648) ≤ _
      rw [e]; exact Nat.add_le_add_left m2 _
    · show _ ≤ 2147483648 + (xh - 2147483648) <<< (yh - 2147483648)
      rw [e]; exact Nat.add_le_add_left m1 _
  · exact ax_Got.any h hY (sx_b_lt _)
theorem ax_bs2_78 {o : Nat} {R : Int32} (hR : (o = 7 ∧ R = P >>> (Q &&& 31)) ∨ (o = 8 ∧ R = (P.toUInt32 >>> (Q.toUInt32 &&& Int32.toUInt32 31)).toInt32)) (h : sx_if (Nat.ble 2147483648 xl)
      (sx_if (sx_and (Nat.ble 2147483648 yl) (Nat.ble yh 2147483679)) (ax_fn Y n (Nat.add 2147483648 (Nat.shiftRight (Nat.sub xl 2147483648) (Nat.sub yh 2147483648))) (Nat.add 2147483648 (Nat.shiftRight (Nat.sub xh 2147483648) (Nat.sub yl 2147483648))) 0 0 0 K)
        (ax_fn Y n 2147483648 xh 0 0 0 K))
      (sx_if (sx_and (Nat.beq o 8) (sx_and (Nat.beq yl yh) (sx_and (Nat.blt 2147483648 yl) (Nat.ble yl 2147483679)))) (ax_fn Y n 2147483648 (Nat.add 2147483648 (Nat.pred (Nat.pow 2 (Nat.sub 2147483680 yl)))) 0 0 0 K) (ax_any Y n K)) = some outs) (hY : ax_Yk ρ Y n) (x1 : xl ≤ sx_b P) (x2 : sx_b P ≤ xh) (y1 : yl ≤ sx_b Q) (y2 : sx_b Q ≤ yh) : ax_Got ρ outs K (sx_b R) := by
  rcases ax_if h with ⟨c, h⟩ | ⟨-, h⟩
  · have c := sx_ble c
    obtain ⟨p, -, -, hp⟩ := ax_b_pos (P := P) (by omega)
    have e : sx_b R = 2147483648 + p >>> (Q.toBitVec.toNat % 32) := by
      rcases hR with ⟨-, rfl⟩ | ⟨-, rfl⟩
      · exact (ax_b_shr (Q := Q) hp).1
      · exact (ax_b_shr (Q := Q) hp).2
    rcases ax_if h with ⟨d, h⟩ | ⟨-, h⟩
    · obtain ⟨d1, d2⟩ := sx_and_ok d
      have d1 := sx_ble d1
      have d2 := sx_ble d2
      obtain ⟨q, hq1, -, hq⟩ := ax_b_pos (P := Q) (by omega)
      rw [hq1, Nat.mod_eq_of_lt (show q < 32 by omega)] at e
      have m1 : p >>> q ≤ (xh - 2147483648) >>> (yl - 2147483648) := ax_shr_le (by omega) (by omega)
      have m2 : (xl - 2147483648) >>> (yh - 2147483648) ≤ p >>> q := ax_shr_le (by omega) (by omega)
      refine ax_fn_plain h hY ?_ ?_ (sx_b_lt _)
      · show 2147483648 + (xl - 2147483648) >>> (yh - 2147483648) ≤ _
        rw [e]; exact Nat.add_le_add_left m2 _
      · show _ ≤ 2147483648 + (xh - 2147483648) >>> (yl - 2147483648)
        rw [e]; exact Nat.add_le_add_left m1 _
    · have m : p >>> (Q.toBitVec.toNat % 32) ≤ p := Nat.shiftRight_le _ _
      generalize p >>> (Q.toBitVec.toNat % 32) = s at e m
      exact ax_fn_plain h hY (by omega) (by omega) (sx_b_lt _)
  · rcases ax_if h with ⟨d, h⟩ | ⟨-, h⟩
    · obtain ⟨d0, d1⟩ := sx_and_ok d
      obtain ⟨d1, d2⟩ := sx_and_ok d1
      obtain ⟨d2, d3⟩ := sx_and_ok d2
      have d0 := sx_beq d0
      have d1 := sx_beq d1
      have d2 : 2147483648 < yl := sx_blt d2
      have d3 := sx_ble d3
      rcases hR with ⟨q, -⟩ | ⟨-, rfl⟩
      · omega
      · obtain ⟨q, hq1, -, hq⟩ := ax_b_pos (P := Q) (by omega)
        have b := ax_b_ushr (P := P) hq (by omega) (by omega)
        refine ax_fn_plain h hY b.1 ?_ (sx_b_lt _)
        show _ ≤ 2147483648 + (2 ^ (2147483680 - yl) - 1)
        rw [show 2147483680 - yl = 32 - q by omega]
        omega
    · exact ax_Got.any h hY (sx_b_lt _)
theorem ax_bs2_9 {o : Nat} {R : Int32} (hR : (o = 9 ∧ R = P / Q) ∨ (o = 10 ∧ R = P - P / Q * Q)) (h : (sx_if (Nat.blt 2147483648 yl)
    (sx_if (Nat.beq o 9)
      (sx_if (Nat.ble 2147483648 xl) (ax_fn Y n (Nat.add 2147483648 (Nat.div (Nat.sub xl 2147483648) (Nat.sub yh 2147483648))) (Nat.add 2147483648 (Nat.div (Nat.sub xh 2147483648) (Nat.sub yl 2147483648))) 0 0 0 K) (ax_any Y n K))
      (ax_fn Y n (sx_if (Nat.ble 2147483648 xl) 2147483648 (sx_mx xl (Nat.sub 4294967297 yh))) (sx_if (Nat.ble 2147483648 xh) (sx_mn xh (Nat.pred yh)) 2147483648) 0 0 0 K))
    (sx_if (Nat.blt yh 2147483648) (ax_any Y n K) none)) = some outs) (hY : ax_Yk ρ Y n) (x1 : xl ≤ sx_b P) (x2 : sx_b P ≤ xh) (y1 : yl ≤ sx_b Q) (y2 : sx_b Q ≤ yh) : ax_Got ρ outs K (sx_b R) ∧ ¬ Q = 0 := by
  have q0 : sx_b (0 : Int32) = 2147483648 := rfl
  rcases ax_if h with ⟨c, h⟩ | ⟨-, h⟩
  · have c : 2147483648 < yl := sx_blt c
    refine ⟨?_, fun q => by rw [q, q0] at y1; omega⟩
    rcases ax_if h with ⟨d, h⟩ | ⟨d, h⟩
    · have d := sx_beq d
      rcases hR with ⟨-, rfl⟩ | ⟨q, -⟩
      · rcases ax_if h with ⟨c1, h⟩ | ⟨-, h⟩
        · have c1 := sx_ble c1
          obtain ⟨p, -, -, hp⟩ := ax_b_pos (P := P) (by omega)
          obtain ⟨q, -, -, hq⟩ := ax_b_pos (P := Q) (by omega)
          have e := ax_b_div hp hq
          have m1 : p / q ≤ (xh - 2147483648) / (yl - 2147483648) := Nat.div_le_div (by omega) (by omega) (by omega)
          have m2 : (xl - 2147483648) / (yh - 2147483648) ≤ p / q := Nat.div_le_div (by omega) (by omega) (by omega)
          refine ax_fn_plain h hY ?_ ?_ (sx_b_lt _)
          · show 2147483648 + (xl - 2147483648) / (yh - 2147483648) ≤ _
            rw [e]; exact Nat.add_le_add_left m2 _
          · show _ ≤ 2147483648 + (xh - 2147483648) / (yl - 2147483648)
            rw [e]; exact Nat.add_le_add_left m1 _
        · exact ax_Got.any h hY (sx_b_lt _)
      · omega
    · have d := sx_beq_f d
      rcases hR with ⟨q, -⟩ | ⟨-, rfl⟩
      · omega
      · obtain ⟨r1, r2, r3, r4⟩ := ax_b_rem (P := P) (Q := Q) (by omega)
        refine ax_fn_plain h hY ?_ ?_ (sx_b_lt _)
        · cases hc : Nat.ble 2147483648 xl with
          | true => rw [sx_if_t]; exact (r1 (by have := sx_ble hc; omega)).1
          | false =>
            rw [sx_if_f]
            refine ax_mx_le ?_ ?_
            · by_cases hp : sx_b P ≤ 2147483648
              · have := (r2 hp).2; omega
              · have := (r1 (by omega)).1
                have := sx_ble_f hc
                omega
            · show 4294967297 - yh ≤ _
              omega
        · cases hc : Nat.ble 2147483648 xh with
          | true =>
            rw [sx_if_t]
            refine ax_mn_le ?_ ?_
            · by_cases hp : sx_b P ≤ 2147483648
              · have := (r2 hp).1
                have := sx_ble hc
                omega
              · have := (r1 (by omega)).2; omega
            · show _ ≤ yh - 1
              omega
          | false =>
            rw [sx_if_f]
            have := sx_ble_f hc
            exact (r2 (by omega)).1
  · rcases ax_if h with ⟨c, h⟩ | ⟨-, h⟩
    · have c : yh < 2147483648 := sx_blt c
      exact ⟨ax_Got.any h hY (sx_b_lt _), fun q => by rw [q, q0] at y2; omega⟩
    · cases h
theorem ax_bin_ok {o : Nat} (ho : o ≤ 10) (h : ax_bin o x y F Y n K = some outs) (hY : ax_Yk ρ Y n) (hF : ax_Fk ρ F) (hx : ax_J ρ x (sx_b P)) (hy : ax_J ρ y (sx_b Q)) : ax_Got ρ outs K (sx_b (sx_bf o P Q)) ∧ (9 ≤ o → ¬ Q = 0) := by
  unfold ax_bin at h
  obtain ⟨x, h, hx⟩ := ax_nm_h h hY hx
  obtain ⟨y, h, hy⟩ := ax_nm_h h hY hy
  rcases ax_if h with ⟨c, h⟩ | ⟨c, h⟩
  · obtain ⟨c1, c2⟩ := sx_and_ok c
    have c1 : x % 8 = 0 := sx_beq c1
    have c2 : y % 8 = 0 := sx_beq c2
    obtain ⟨v, h1, h2, h3⟩ := ax_bk_ok h
    rw [show Int32.ofNat (sx_pl x) = P from (hx.i0 c1).2, show Int32.ofNat (sx_pl y) = Q from (hy.i0 c2).2] at h2
    rw [show Int32.ofNat (sx_pl y) = Q from (hy.i0 c2).2] at h3
    refine ⟨ax_Got.here h1 hY ?_, h3⟩
    rw [h2]
    exact ax_J.i _
  · rcases ax_if h with ⟨d, h⟩ | ⟨-, h⟩
    · obtain ⟨d1, d2⟩ := sx_and_ok d
      obtain ⟨d2, d3⟩ := sx_and_ok d2
      have d1 := sx_beq d1
      obtain ⟨Y', o', h1, h2, h3⟩ := ax_en_ok h hY hy
      obtain ⟨v, h4, h5, -⟩ := ax_bk_ok h1
      have x0 : x % 8 = 0 := by
        rcases ax_or d2 with q | q
        · rw [sx_beq q]
        · rw [sx_beq q]
      rw [show Int32.ofNat (sx_pl x) = P from (hx.i0 x0).2, show Int32.ofNat (sx_bs (sx_b Q)) = Q from sx_b_back Q] at h5
      refine ⟨(ax_Got.here h4 h3 ?_).sub h2, fun q => by omega⟩
      rw [h5]
      exact ax_J.i _
    · obtain ⟨xl, xh, h, x1, x2, x0⟩ := ax_rg_h0 h hY hx
      obtain ⟨yl, yh, h, y1, y2, y0⟩ := ax_rg_h0 h hY hy
      have hn : ¬ (x % 8 = 0 ∧ y % 8 = 0) := fun q => by
        have : sx_and (Nat.beq (sx_tg x) 0) (Nat.beq (sx_tg y) 0) = true := by
          rw [sx_beq_t (show sx_tg x = 0 from q.1), sx_beq_t (show sx_tg y = 0 from q.2)]; rfl
        rw [this] at c
        cases c
      rcases (show o = 0 ∨ o = 1 ∨ o = 2 ∨ o = 3 ∨ o = 4 ∨ o = 5 ∨ o = 6 ∨ o = 7 ∨ o = 8 ∨ o = 9 ∨ o = 10 by omega) with rfl | rfl | rfl | rfl | rfl | rfl | rfl | rfl | rfl | rfl | rfl
      · exact ⟨ax_bs2_0 h hY hx hy hn x1 x2 x0 y1 y2 y0, fun q => by omega⟩
      · exact ⟨ax_bs2_1 h hY hF hx hy hn x1 x2 y1 y2 y0, fun q => by omega⟩
      · exact ⟨ax_bs2_2 h hY x1 x2 y1 y2, fun q => by omega⟩
      · exact ⟨ax_bs2_3 h hY hx hy x1 x2 y1 y2, fun q => by omega⟩
      · exact ⟨(ax_bs2_45 h hY x1 x2 y1 y2).1, fun q => by omega⟩
      · exact ⟨ax_bs2_5 h hY hx hy x1 x2 y1 y2, fun q => by omega⟩
      · exact ⟨ax_bs2_6 h hY x1 x2 y1 y2, fun q => by omega⟩
      · exact ⟨ax_bs2_78 (o := 7) (Or.inl ⟨rfl, rfl⟩) h hY x1 x2 y1 y2, fun q => by omega⟩
      · exact ⟨ax_bs2_78 (o := 8) (Or.inr ⟨rfl, rfl⟩) h hY x1 x2 y1 y2, fun q => by omega⟩
      · have r := ax_bs2_9 (o := 9) (R := P / Q) (Or.inl ⟨rfl, rfl⟩) h hY x1 x2 y1 y2
        exact ⟨r.1, fun _ => r.2⟩
      · have r := ax_bs2_9 (o := 10) (R := P - P / Q * Q) (Or.inr ⟨rfl, rfl⟩) h hY x1 x2 y1 y2
        exact ⟨r.1, fun _ => r.2⟩
end AXBin3
