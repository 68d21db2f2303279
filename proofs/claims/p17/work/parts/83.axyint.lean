/-! ax: of ints: what an operation gives -/
theorem ax_bm {t : Int} (h1 : -2147483648 ≤ t) (h2 : t < 2147483648) : t.bmod 4294967296 = t := Int.bmod_eq_of_le (by omega) (by omega)
theorem ax_b_add {P Q : Int32} (h1 : 2147483648 ≤ sx_b P + sx_b Q) (h2 : sx_b P + sx_b Q < 6442450944) : sx_b (P + Q) + 2147483648 = sx_b P + sx_b Q := by
  have a := sx_b_int P
  have b := sx_b_int Q
  have c := sx_b_int (P + Q)
  rw [Int32.toInt_add, show (2 ^ 32 : Nat) = 4294967296 from rfl, ax_bm (by omega) (by omega)] at c
  omega
theorem ax_b_sub {P Q : Int32} (h1 : sx_b Q ≤ sx_b P + 2147483648) (h2 : sx_b P + 2147483648 < sx_b Q + 4294967296) : sx_b (P - Q) + sx_b Q = sx_b P + 2147483648 := by
  have a := sx_b_int P
  have b := sx_b_int Q
  have c := sx_b_int (P - Q)
  rw [Int32.toInt_sub, show (2 ^ 32 : Nat) = 4294967296 from rfl, ax_bm (by omega) (by omega)] at c
  omega
theorem ax_b_neg {P : Int32} (h1 : sx_b P ≠ 0) : sx_b (-P) + sx_b P = 4294967296 := by
  have a := sx_b_int P
  have c := sx_b_int (-P)
  have l := sx_b_lt P
  rw [Int32.toInt_neg, show (2 ^ 32 : Nat) = 4294967296 from rfl, ax_bm (by omega) (by omega)] at c
  omega
/-- not below 0: the int is its number -/
theorem ax_b_nn {P : Int32} : 2147483648 ≤ sx_b P ↔ P.toBitVec.toNat < 2147483648 := by
  have a := sx_b_int P
  have l := sx_b_lt P
  have e : P.toInt = P.toBitVec.toInt := rfl
  rw [e, BitVec.toInt_eq_toNat_cond] at a
  have hl := P.toBitVec.isLt
  split at a <;> omega
theorem ax_b_tn (P : Int32) : sx_b P = (P.toBitVec.toNat + 2147483648) % 4294967296 := by
  have a := sx_b_int P
  have e : P.toInt = P.toBitVec.toInt := rfl
  rw [e, BitVec.toInt_eq_toNat_cond] at a
  have hl := P.toBitVec.isLt
  split at a <;> omega
theorem ax_b_nat {P : Int32} (h : P.toBitVec.toNat < 2147483648) : sx_b P = 2147483648 + P.toBitVec.toNat := by
  rw [ax_b_tn]; omega
theorem ax_b_pos {P : Int32} (h : 2147483648 ≤ sx_b P) : ∃ x, P.toBitVec.toNat = x ∧ x < 2147483648 ∧ sx_b P = 2147483648 + x := ⟨_, rfl, ax_b_nn.mp h, ax_b_nat (ax_b_nn.mp h)⟩
theorem ax_b_mul {P Q : Int32} {x y : Nat} (hx : sx_b P = 2147483648 + x) (hy : sx_b Q = 2147483648 + y) (h : x * y < 2147483648) : sx_b (P * Q) = 2147483648 + x * y := by
  have a := sx_b_int P
  have b := sx_b_int Q
  have c := sx_b_int (P * Q)
  have e1 : P.toInt = (x : Int) := by omega
  have e2 : Q.toInt = (y : Int) := by omega
  have e3 : (x : Int) * (y : Int) = ((x * y : Nat) : Int) := by simp
  rw [Int32.toInt_mul, show (2 ^ 32 : Nat) = 4294967296 from rfl, e1, e2, e3, ax_bm (by omega) (by omega)] at c
  omega
theorem ax_tn_and (P Q : Int32) : (P &&& Q).toBitVec.toNat = P.toBitVec.toNat &&& Q.toBitVec.toNat := by simp
theorem ax_tn_or (P Q : Int32) : (P ||| Q).toBitVec.toNat = P.toBitVec.toNat ||| Q.toBitVec.toNat := by simp
theorem ax_tn_xor (P Q : Int32) : (P ^^^ Q).toBitVec.toNat = P.toBitVec.toNat ^^^ Q.toBitVec.toNat := by simp
theorem ax_b_and1 {P Q : Int32} (h : 2147483648 ≤ sx_b P) : 2147483648 ≤ sx_b (P &&& Q) ∧ sx_b (P &&& Q) ≤ sx_b P := by
  have h1 := ax_b_nn.mp h
  have h2 : (P &&& Q).toBitVec.toNat ≤ P.toBitVec.toNat := by rw [ax_tn_and]; exact Nat.and_le_left
  have h3 := ax_b_nat h1
  have h4 := ax_b_nat (P := P &&& Q) (by omega)
  omega
theorem ax_b_and2 {P Q : Int32} (h : 2147483648 ≤ sx_b Q) : 2147483648 ≤ sx_b (P &&& Q) ∧ sx_b (P &&& Q) ≤ sx_b Q := by
  have h1 := ax_b_nn.mp h
  have h2 : (P &&& Q).toBitVec.toNat ≤ Q.toBitVec.toNat := by rw [ax_tn_and]; exact Nat.and_le_right
  have h3 := ax_b_nat h1
  have h4 := ax_b_nat (P := P &&& Q) (by omega)
  omega
theorem ax_pow_log {m x : Nat} (h : x ≤ m) : x < 2 ^ (Nat.log2 m + 1) := Nat.lt_of_le_of_lt h (Nat.lt_log2_self)
theorem ax_b_or {P Q : Int32} {m : Nat} (h1 : 2147483648 ≤ sx_b P) (h2 : 2147483648 ≤ sx_b Q) (l1 : sx_b P - 2147483648 < 2 ^ m) (l2 : sx_b Q - 2147483648 < 2 ^ m) : (2147483648 ≤ sx_b (P ||| Q) ∧ sx_b (P ||| Q) < 2147483648 + 2 ^ m) ∧ (2147483648 ≤ sx_b (P ^^^ Q) ∧ sx_b (P ^^^ Q) < 2147483648 + 2 ^ m) := by
  have a1 := ax_b_nn.mp h1
  have a2 := ax_b_nn.mp h2
  have b1 := ax_b_nat a1
  have b2 := ax_b_nat a2
  have c1 : P.toBitVec.toNat < 2 ^ m := by omega
  have c2 : Q.toBitVec.toNat < 2 ^ m := by omega
  have d1 : (P ||| Q).toBitVec.toNat < 2 ^ m := by rw [ax_tn_or]; exact Nat.or_lt_two_pow c1 c2
  have d2 : (P ^^^ Q).toBitVec.toNat < 2 ^ m := by rw [ax_tn_xor]; exact Nat.xor_lt_two_pow c1 c2
  have e1 : (P ||| Q).toBitVec.toNat < 2 ^ 31 := by rw [ax_tn_or]; exact Nat.or_lt_two_pow a1 a2
  have e2 : (P ^^^ Q).toBitVec.toNat < 2 ^ 31 := by rw [ax_tn_xor]; exact Nat.xor_lt_two_pow a1 a2
  have f1 := ax_b_nat (P := P ||| Q) e1
  have f2 := ax_b_nat (P := P ^^^ Q) e2
  omega
theorem ax_b_not (P : Int32) : sx_b (P ^^^ Int32.ofNat 4294967295) + sx_b P = 4294967295 := by
  have h := ax_tn_xor P (Int32.ofNat 4294967295)
  rw [show (Int32.ofNat 4294967295).toBitVec.toNat = 2 ^ 32 - 1 from by decide] at h
  have hl := P.toBitVec.isLt
  have e : P.toBitVec.toNat ^^^ (2 ^ 32 - 1) = 2 ^ 32 - 1 - P.toBitVec.toNat := by
    apply Nat.eq_of_testBit_eq
    intro i
    rw [Nat.testBit_xor, Nat.testBit_two_pow_sub_one, show 2 ^ 32 - 1 - P.toBitVec.toNat = 2 ^ 32 - (P.toBitVec.toNat + 1) by omega, Nat.testBit_two_pow_sub_succ hl]
    by_cases hi : i < 32
    · simp [hi]
    · have : P.toBitVec.toNat.testBit i = false := Nat.testBit_lt_two_pow (Nat.lt_of_lt_of_le hl (Nat.pow_le_pow_right (by decide) (by omega)))
      simp [hi, this]
  rw [ax_b_tn, ax_b_tn, h, e]
  omega
theorem ax_sh_amt {Q : Int32} : (Q &&& 31).toBitVec.toNat = Q.toBitVec.toNat % 32 := by
  rw [ax_tn_and, show (31 : Int32).toBitVec.toNat = 2 ^ 5 - 1 from by decide, Nat.and_two_pow_sub_one_eq_mod]

theorem ax_sh_k : ∀ k : Fin 32, (Int32.ofNat k.val).toBitVec.smod 32 = BitVec.ofNat 32 k.val := by decide
theorem ax_on_tn {x : Nat} (h : x < 4294967296) : (Int32.ofNat x).toBitVec.toNat = x := by
  show (BitVec.ofNat 32 x).toNat = x
  rw [BitVec.toNat_ofNat]
  exact Nat.mod_eq_of_lt h
theorem ax_sh_q (Q : Int32) : Q &&& 31 = Int32.ofNat (Q.toBitVec.toNat % 32) := by
  apply Int32.toBitVec_inj.mp
  apply BitVec.eq_of_toNat_eq
  rw [ax_sh_amt, ax_on_tn (by omega)]
theorem ax_sh_m (Q : Int32) : (Q &&& 31).toBitVec.smod 32 = BitVec.ofNat 32 (Q.toBitVec.toNat % 32) := by
  rw [ax_sh_q]
  exact ax_sh_k ⟨Q.toBitVec.toNat % 32, Nat.mod_lt _ (by decide)⟩
theorem ax_tn_shl (P Q : Int32) : (P <<< (Q &&& 31)).toBitVec.toNat = (P.toBitVec.toNat <<< (Q.toBitVec.toNat % 32)) % 4294967296 := by
  have e : (P <<< (Q &&& 31)).toBitVec = P.toBitVec <<< ((Q &&& 31).toBitVec.smod 32) := rfl
  rw [e, ax_sh_m, BitVec.shiftLeft_eq', BitVec.toNat_shiftLeft, BitVec.toNat_ofNat, Nat.mod_eq_of_lt (show Q.toBitVec.toNat % 32 < 2 ^ 32 by omega)]
theorem ax_tn_ushr (P Q : Int32) : (P.toUInt32 >>> (Q.toUInt32 &&& Int32.toUInt32 31)).toInt32.toBitVec.toNat = P.toBitVec.toNat >>> (Q.toBitVec.toNat % 32) := by
  have e : (P.toUInt32 >>> (Q.toUInt32 &&& Int32.toUInt32 31)).toInt32.toBitVec = P.toBitVec >>> ((Q &&& 31).toBitVec % 32) := rfl
  rw [e, BitVec.ushiftRight_eq', BitVec.toNat_ushiftRight, BitVec.toNat_umod, ax_sh_amt]
  rw [show (32 : BitVec 32).toNat = 32 from rfl, Nat.mod_mod]

theorem ax_tn_sshr (P Q : Int32) (h : P.toBitVec.toNat < 2147483648) : (P >>> (Q &&& 31)).toBitVec.toNat = P.toBitVec.toNat >>> (Q.toBitVec.toNat % 32) := by
  have e : (P >>> (Q &&& 31)).toBitVec = P.toBitVec.sshiftRight' ((Q &&& 31).toBitVec.smod 32) := rfl
  rw [e, ax_sh_m, BitVec.sshiftRight_eq', BitVec.sshiftRight_eq_of_msb_false (by rw [BitVec.msb_eq_false_iff_two_mul_lt]; omega), BitVec.toNat_ushiftRight, BitVec.toNat_ofNat, Nat.mod_eq_of_lt (show Q.toBitVec.toNat % 32 < 2 ^ 32 by omega)]
theorem ax_b_div {P Q : Int32} {x y : Nat} (hx : sx_b P = 2147483648 + x) (hy : sx_b Q = 2147483648 + y) : sx_b (P / Q) = 2147483648 + x / y := by
  have a := sx_b_int P
  have b := sx_b_int Q
  have c := sx_b_int (P / Q)
  have l := sx_b_lt P
  have e1 : P.toInt = (x : Int) := by omega
  have e2 : Q.toInt = (y : Int) := by omega
  have e3 : (x : Int).tdiv (y : Int) = ((x / y : Nat) : Int) := by simp
  have e4 : x / y ≤ x := Nat.div_le_self _ _
  generalize x / y = q at e3 e4 ⊢
  rw [Int32.toInt_div, show (2 ^ 32 : Nat) = 4294967296 from rfl, e1, e2, e3, ax_bm (by omega) (by omega)] at c
  omega
theorem ax_i_rem (P Q : Int32) (hq : 0 < Q.toInt) : (P - P / Q * Q).toInt = P.toInt.tmod Q.toInt := by
  have h1 := Int32.le_toInt P
  have h2 := Int32.toInt_lt P
  have h3 := Int32.toInt_lt Q
  have hm := Int.mul_tdiv_add_tmod P.toInt Q.toInt
  have hb : (P.toInt.tdiv Q.toInt).natAbs ≤ P.toInt.natAbs := Int.natAbs_tdiv_le_natAbs _ _
  have ht : (0 ≤ P.toInt → 0 ≤ P.toInt.tmod Q.toInt ∧ P.toInt.tmod Q.toInt ≤ P.toInt ∧ 0 ≤ P.toInt.tdiv Q.toInt) ∧ (P.toInt < 0 → P.toInt.tmod Q.toInt ≤ 0 ∧ P.toInt ≤ P.toInt.tmod Q.toInt ∧ P.toInt.tdiv Q.toInt ≤ 0) := by
    constructor
    · intro hp
      have q1 := Int.tmod_nonneg Q.toInt hp
      have q2 : 0 ≤ P.toInt.tdiv Q.toInt := Int.tdiv_nonneg hp (by omega)
      have q3 : 0 ≤ Q.toInt * P.toInt.tdiv Q.toInt := Int.mul_nonneg (by omega) q2
      exact ⟨q1, by omega, q2⟩
    · intro hp
      have q1 := Int.tmod_nonneg Q.toInt (a := -P.toInt) (by omega)
      rw [Int.neg_tmod] at q1
      have q2 : 0 ≤ (-P.toInt).tdiv Q.toInt := Int.tdiv_nonneg (by omega) (by omega)
      rw [Int.neg_tdiv] at q2
      have q3 : 0 ≤ Q.toInt * -(P.toInt.tdiv Q.toInt) := Int.mul_nonneg (by omega) q2
      rw [Int.mul_neg] at q3
      exact ⟨by omega, by omega, by omega⟩
  rw [Int32.toInt_sub, Int32.toInt_mul, Int32.toInt_div, show (2 ^ 32 : Nat) = 4294967296 from rfl]
  rw [Int.mul_comm] at hm
  generalize P.toInt.tdiv Q.toInt = t at *
  generalize P.toInt.tmod Q.toInt = m at *
  rw [ax_bm (t := t) (by omega) (by omega)]
  have hx : t * Q.toInt = P.toInt - m := by omega
  rw [hx, ax_bm (t := P.toInt - m) (by omega) (by omega), ax_bm (by omega) (by omega)]
  omega
theorem ax_b_rem {P Q : Int32} (hq : 2147483648 < sx_b Q) : (2147483648 ≤ sx_b P → 2147483648 ≤ sx_b (P - P / Q * Q) ∧ sx_b (P - P / Q * Q) ≤ sx_b P) ∧ (sx_b P ≤ 2147483648 → sx_b (P - P / Q * Q) ≤ 2147483648 ∧ sx_b P ≤ sx_b (P - P / Q * Q)) ∧ sx_b (P - P / Q * Q) < sx_b Q ∧ 4294967296 < sx_b (P - P / Q * Q) + sx_b Q := by
  have a := sx_b_int P
  have b := sx_b_int Q
  have c := sx_b_int (P - P / Q * Q)
  have hm := Int.mul_tdiv_add_tmod P.toInt Q.toInt
  have hq' : 0 < Q.toInt := by omega
  rw [ax_i_rem P Q hq'] at c
  have k1 : P.toInt.tmod Q.toInt < Q.toInt := Int.tmod_lt_of_pos _ hq'
  have k2 : -Q.toInt < P.toInt.tmod Q.toInt := by
    have := Int.tmod_lt_of_pos (-P.toInt) hq'
    rw [Int.neg_tmod] at this
    omega
  refine ⟨fun hp => ?_, fun hp => ?_, by omega, by omega⟩
  · have q1 := Int.tmod_nonneg Q.toInt (a := P.toInt) (by omega)
    have q2 : 0 ≤ P.toInt.tdiv Q.toInt := Int.tdiv_nonneg (by omega) (by omega)
    have q3 : 0 ≤ Q.toInt * P.toInt.tdiv Q.toInt := Int.mul_nonneg (by omega) q2
    exact ⟨by omega, by omega⟩
  · have q1 := Int.tmod_nonneg Q.toInt (a := -P.toInt) (by omega)
    rw [Int.neg_tmod] at q1
    have q2 : 0 ≤ (-P.toInt).tdiv Q.toInt := Int.tdiv_nonneg (by omega) (by omega)
    rw [Int.neg_tdiv] at q2
    have q3 : 0 ≤ Q.toInt * -(P.toInt.tdiv Q.toInt) := Int.mul_nonneg (by omega) q2
    rw [Int.mul_neg] at q3
    exact ⟨by omega, by omega⟩
theorem ax_b_shl {P Q : Int32} {x y : Nat} (hx : sx_b P = 2147483648 + x) (hy : sx_b Q = 2147483648 + y) (h30 : y ≤ 31) (h : x <<< y < 2147483648) : sx_b (P <<< (Q &&& 31)) = 2147483648 + x <<< y := by
  have a1 := ax_b_tn P
  have a2 := ax_b_tn Q
  have l1 := P.toBitVec.isLt
  have l2 := Q.toBitVec.isLt
  have lP := sx_b_lt P
  have lQ := sx_b_lt Q
  have e := ax_tn_shl P Q
  rw [show P.toBitVec.toNat = x by omega, show Q.toBitVec.toNat = y by omega, Nat.mod_eq_of_lt (show y < 32 by omega), Nat.mod_eq_of_lt (a := x <<< y) (by omega)] at e
  rw [ax_b_nat (by omega), e]
theorem ax_b_shr {P Q : Int32} {x : Nat} (hx : sx_b P = 2147483648 + x) : (sx_b (P >>> (Q &&& 31)) = 2147483648 + x >>> (Q.toBitVec.toNat % 32)) ∧ (sx_b (P.toUInt32 >>> (Q.toUInt32 &&& Int32.toUInt32 31)).toInt32 = 2147483648 + x >>> (Q.toBitVec.toNat % 32)) := by
  have a1 := ax_b_tn P
  have l1 := P.toBitVec.isLt
  have lP := sx_b_lt P
  have hp : P.toBitVec.toNat = x := by omega
  have e1 := ax_tn_sshr P Q (by omega)
  have e2 := ax_tn_ushr P Q
  rw [hp] at e1 e2
  have hl : x >>> (Q.toBitVec.toNat % 32) ≤ x := Nat.shiftRight_le _ _
  exact ⟨by rw [ax_b_nat (by omega), e1], by rw [ax_b_nat (by omega), e2]⟩
theorem ax_b_ushr {P Q : Int32} {y : Nat} (hy : sx_b Q = 2147483648 + y) (h1 : 0 < y) (h31 : y ≤ 31) : 2147483648 ≤ sx_b (P.toUInt32 >>> (Q.toUInt32 &&& Int32.toUInt32 31)).toInt32 ∧ sx_b (P.toUInt32 >>> (Q.toUInt32 &&& Int32.toUInt32 31)).toInt32 < 2147483648 + 2 ^ (32 - y) := by
  have a2 := ax_b_tn Q
  have l1 := P.toBitVec.isLt
  have l2 := Q.toBitVec.isLt
  have e2 := ax_tn_ushr P Q
  rw [show Q.toBitVec.toNat = y by omega, Nat.mod_eq_of_lt (show y < 32 by omega), Nat.shiftRight_eq_div_pow] at e2
  have hd : P.toBitVec.toNat / 2 ^ y < 2 ^ (32 - y) := by
    rw [Nat.div_lt_iff_lt_mul (Nat.two_pow_pos y), ← Nat.pow_add, show 32 - y + y = 32 by omega]
    exact l1
  have hp : 2 ^ (32 - y) ≤ 2 ^ 31 := Nat.pow_le_pow_right (by decide) (by omega)
  have := ax_b_nat (P := (P.toUInt32 >>> (Q.toUInt32 &&& Int32.toUInt32 31)).toInt32) (by omega)
  omega
