/-! fx: bits of numbers that are not below 0 -/
theorem i32_nat {a : Nat} (h : a < 2147483648) : (Int32.ofInt (a : Int)).toBitVec = BitVec.ofNat 32 a := by
  have e : (Int32.ofInt (a : Int)).toBitVec = BitVec.ofInt 32 (a : Int) := rfl
  rw [e, BitVec.ofInt_natCast]
theorem bv_int {x : BitVec 32} {n : Nat} (h : x.toNat = n) (hn : n < 2147483648) : x.toInt = (n : Int) := by
  rw [BitVec.toInt_eq_toNat_of_lt (by omega), h]
theorem fop_bv (o : Nat) (x y : Int) : fop o x y = (sx_bf o (Int32.ofInt x) (Int32.ofInt y)).toBitVec.toInt := rfl
theorem fop_or_n {a b : Nat} (ha : a < 2147483648) (hb : b < 2147483648) : fop 4 (a : Int) (b : Int) = ((a ||| b : Nat) : Int) := by
  have e : fop 4 (a : Int) (b : Int) = (Int32.ofInt (a : Int) ||| Int32.ofInt (b : Int)).toBitVec.toInt := rfl
  rw [e, Int32.toBitVec_or, i32_nat ha, i32_nat hb]
  refine bv_int ?_ (Nat.or_lt_two_pow (n := 31) ha hb)
  rw [BitVec.toNat_or, BitVec.toNat_ofNat, BitVec.toNat_ofNat, Nat.mod_eq_of_lt (by omega), Nat.mod_eq_of_lt (by omega)]
theorem fop_and_n {a b : Nat} (ha : a < 2147483648) (hb : b < 2147483648) : fop 3 (a : Int) (b : Int) = ((a &&& b : Nat) : Int) := by
  have e : fop 3 (a : Int) (b : Int) = (Int32.ofInt (a : Int) &&& Int32.ofInt (b : Int)).toBitVec.toInt := rfl
  rw [e, Int32.toBitVec_and, i32_nat ha, i32_nat hb]
  refine bv_int ?_ (Nat.lt_of_le_of_lt Nat.and_le_left ha)
  rw [BitVec.toNat_and, BitVec.toNat_ofNat, BitVec.toNat_ofNat, Nat.mod_eq_of_lt (by omega), Nat.mod_eq_of_lt (by omega)]
theorem i32_am : ∀ q : Fin 32, ((Int32.ofInt ((q.val : Nat) : Int) &&& 31).toBitVec.smod 32) = BitVec.ofNat 32 q.val := by decide +kernel
theorem i32_sm : ∀ q : Fin 32, (((Int32.ofInt ((q.val : Nat) : Int) &&& 31).toBitVec).smod 32).toNat = q.val := by decide +kernel
theorem fop_shl_n {a k : Nat} (hk : k < 32) (h : a <<< k < 2147483648) : fop 6 (a : Int) (k : Int) = ((a <<< k : Nat) : Int) := by
  have ha : a < 2147483648 := Nat.lt_of_le_of_lt (by rw [Nat.shiftLeft_eq]; exact Nat.le_mul_of_pos_right a (Nat.two_pow_pos k)) h
  have e : fop 6 (a : Int) (k : Int) = (Int32.ofInt (a : Int) <<< (Int32.ofInt (k : Int) &&& 31)).toBitVec.toInt := rfl
  rw [e, Int32.toBitVec_shiftLeft, i32_nat ha, i32_am ⟨k, hk⟩]
  refine bv_int ?_ h
  rw [BitVec.shiftLeft_eq', BitVec.toNat_shiftLeft, BitVec.toNat_ofNat, BitVec.toNat_ofNat, Nat.mod_eq_of_lt (a := a) (by omega), Nat.mod_eq_of_lt (a := k) (by omega), Nat.mod_eq_of_lt (by omega)]
theorem fop_shr_n {a k : Nat} (hk : k < 32) (ha : a < 2147483648) : fop 7 (a : Int) (k : Int) = ((a >>> k : Nat) : Int) := by
  have e : fop 7 (a : Int) (k : Int) = (Int32.ofInt (a : Int) >>> (Int32.ofInt (k : Int) &&& 31)).toBitVec.toInt := rfl
  rw [e, Int32.toBitVec_shiftRight, i32_nat ha, i32_am ⟨k, hk⟩]
  have hm : (BitVec.ofNat 32 a).msb = false := by
    rw [BitVec.msb_eq_false_iff_two_mul_lt, BitVec.toNat_ofNat, Nat.mod_eq_of_lt (by omega)]
    omega
  have hk2 : (BitVec.ofNat 32 k).toNat = k := by rw [BitVec.toNat_ofNat]; omega
  unfold BitVec.sshiftRight'
  rw [hk2, BitVec.sshiftRight_eq_of_msb_false hm]
  refine bv_int ?_ (Nat.lt_of_le_of_lt (by rw [Nat.shiftRight_eq_div_pow]; exact Nat.div_le_self _ _) ha)
  rw [BitVec.toNat_ushiftRight, BitVec.toNat_ofNat, Nat.mod_eq_of_lt (by omega)]
/-- a row of the log in one number -/
def pkL (n p k w : Int) : Int := 256 * n + 32 * p + 8 * k + w
theorem fop_pk {n p k w : Int} (n0 : 0 ≤ n) (n1 : n ≤ 9999) (p0 : 0 ≤ p) (p1 : p ≤ 7) (k0 : 0 ≤ k) (k1 : k ≤ 3) (w0 : 0 ≤ w) (w1 : w ≤ 7) : fop 4 (fop 4 (fop 4 (fop 6 n 8) (fop 6 p 5)) (fop 6 k 3)) w = pkL n p k w := by
  obtain ⟨n, rfl⟩ := Int.eq_ofNat_of_zero_le n0
  obtain ⟨p, rfl⟩ := Int.eq_ofNat_of_zero_le p0
  obtain ⟨k, rfl⟩ := Int.eq_ofNat_of_zero_le k0
  obtain ⟨w, rfl⟩ := Int.eq_ofNat_of_zero_le w0
  have s1 : n <<< 8 = 256 * n := by rw [Nat.shiftLeft_eq]; omega
  have s2 : p <<< 5 = 32 * p := by rw [Nat.shiftLeft_eq]; omega
  have s3 : k <<< 3 = 8 * k := by rw [Nat.shiftLeft_eq]; omega
  have e1 : fop 6 (n : Int) 8 = ((n <<< 8 : Nat) : Int) := fop_shl_n (k := 8) (by decide) (by omega)
  have e2 : fop 6 (p : Int) 5 = ((p <<< 5 : Nat) : Int) := fop_shl_n (k := 5) (by decide) (by omega)
  have e3 : fop 6 (k : Int) 3 = ((k <<< 3 : Nat) : Int) := fop_shl_n (k := 3) (by decide) (by omega)
  have o1 : n <<< 8 ||| p <<< 5 = 256 * n + 32 * p := by
    rw [← Nat.shiftLeft_add_eq_or_of_lt (show p <<< 5 < 2 ^ 8 by omega) n]; omega
  have o2 : (256 * n + 32 * p) ||| k <<< 3 = 256 * n + 32 * p + 8 * k := by
    rw [show 256 * n + 32 * p = (8 * n + p) <<< 5 by rw [Nat.shiftLeft_eq]; omega, ← Nat.shiftLeft_add_eq_or_of_lt (show k <<< 3 < 2 ^ 5 by omega), Nat.shiftLeft_eq]; omega
  have o3 : (256 * n + 32 * p + 8 * k) ||| w = 256 * n + 32 * p + 8 * k + w := by
    rw [show 256 * n + 32 * p + 8 * k = (32 * n + 4 * p + k) <<< 3 by rw [Nat.shiftLeft_eq]; omega, ← Nat.shiftLeft_add_eq_or_of_lt (show w < 2 ^ 3 by omega), Nat.shiftLeft_eq]
  rw [e1, e2, e3, fop_or_n (by omega) (by omega), o1, fop_or_n (by omega) (by omega), o2, fop_or_n (by omega) (by omega), o3]
  unfold pkL
  omega
theorem pkL_n {n p k w : Int} (n0 : 0 ≤ n) (n1 : n ≤ 9999) (p0 : 0 ≤ p) (p1 : p ≤ 7) (k0 : 0 ≤ k) (k1 : k ≤ 3) (w0 : 0 ≤ w) (w1 : w ≤ 7) : fop 7 (pkL n p k w) 8 = n ∧ fop 3 (fop 7 (pkL n p k w) 5) 7 = p ∧ fop 3 (fop 7 (pkL n p k w) 3) 3 = k ∧ fop 3 (pkL n p k w) 7 = w := by
  obtain ⟨n, rfl⟩ := Int.eq_ofNat_of_zero_le n0
  obtain ⟨p, rfl⟩ := Int.eq_ofNat_of_zero_le p0
  obtain ⟨k, rfl⟩ := Int.eq_ofNat_of_zero_le k0
  obtain ⟨w, rfl⟩ := Int.eq_ofNat_of_zero_le w0
  have e : pkL (n : Int) (p : Int) (k : Int) (w : Int) = ((256 * n + 32 * p + 8 * k + w : Nat) : Int) := by unfold pkL; omega
  rw [e]
  have e8 : fop 7 ((256 * n + 32 * p + 8 * k + w : Nat) : Int) 8 = (((256 * n + 32 * p + 8 * k + w) >>> 8 : Nat) : Int) := fop_shr_n (k := 8) (by decide) (by omega)
  have e5 : fop 7 ((256 * n + 32 * p + 8 * k + w : Nat) : Int) 5 = (((256 * n + 32 * p + 8 * k + w) >>> 5 : Nat) : Int) := fop_shr_n (k := 5) (by decide) (by omega)
  have e3 : fop 7 ((256 * n + 32 * p + 8 * k + w : Nat) : Int) 3 = (((256 * n + 32 * p + 8 * k + w) >>> 3 : Nat) : Int) := fop_shr_n (k := 3) (by decide) (by omega)
  have a7 : ∀ x : Nat, x < 2147483648 → fop 3 (x : Int) 7 = ((x % 8 : Nat) : Int) := fun x hx => by
    rw [show (7 : Int) = ((7 : Nat) : Int) from rfl, fop_and_n hx (by decide), show (7 : Nat) = 2 ^ 3 - 1 from rfl, Nat.and_two_pow_sub_one_eq_mod]
  have a3 : ∀ x : Nat, x < 2147483648 → fop 3 (x : Int) 3 = ((x % 4 : Nat) : Int) := fun x hx => by
    rw [show (3 : Int) = ((3 : Nat) : Int) from rfl, fop_and_n hx (by decide), show (3 : Nat) = 2 ^ 2 - 1 from rfl, Nat.and_two_pow_sub_one_eq_mod]
  have d8 : (256 * n + 32 * p + 8 * k + w) >>> 8 = n := by rw [Nat.shiftRight_eq_div_pow]; omega
  have d5 : (256 * n + 32 * p + 8 * k + w) >>> 5 = 8 * n + p := by rw [Nat.shiftRight_eq_div_pow]; omega
  have d3 : (256 * n + 32 * p + 8 * k + w) >>> 3 = 32 * n + 4 * p + k := by rw [Nat.shiftRight_eq_div_pow]; omega
  rw [e8, e5, e3, d8, d5, d3, a7 _ (by omega), a3 _ (by omega), a7 _ (by omega)]
  exact ⟨rfl, by omega, by omega, by omega⟩
