/-! sx: each operation by its number -/
section CXB
variable {ih : sx_ih} {N w d mi cd : Nat} {lst : List sx_I} {pc : Nat} {L S : List Nat} {h : sx_H} {n : Nat} {sy : sx_Y} {cs ss : Nat}
theorem cx_b2 (hop : sx_op w = 2) : sx_body ih N w d mi cd lst pc L S h n sy cs ss = sx_oLoad ih w d mi cd lst pc L S h n sy cs ss := by unfold sx_body; rw [sx_fo_eq, hop]; rfl
theorem cx_b1 (hop : sx_op w = 1) : sx_body ih N w d mi cd lst pc L S h n sy cs ss = sx_oConst ih w d mi cd lst pc L S h n sy cs ss := by unfold sx_body; rw [sx_fo_eq, hop]; rfl
theorem cx_b9 (hop : sx_op w = 9) : sx_body ih N w d mi cd lst pc L S h n sy cs ss = sx_oGet ih w d mi cd lst pc L S h n sy cs ss := by unfold sx_body; rw [sx_fo_eq, hop]; rfl
theorem cx_b7 (hop : sx_op w = 7) : sx_body ih N w d mi cd lst pc L S h n sy cs ss = sx_oIcmp ih w d mi cd lst pc L S h n sy cs ss := by unfold sx_body; rw [sx_fo_eq, hop]; rfl
theorem cx_b6 (hop : sx_op w = 6) : sx_body ih N w d mi cd lst pc L S h n sy cs ss = sx_oIf ih w d mi cd lst pc L S h n sy cs ss := by unfold sx_body; rw [sx_fo_eq, hop]; rfl
theorem cx_b11 (hop : sx_op w = 11) : sx_body ih N w d mi cd lst pc L S h n sy cs ss = sx_oIald ih N d mi cd lst pc L S h n sy cs ss := by unfold sx_body; rw [sx_fo_eq, hop]; rfl
theorem cx_b8 (hop : sx_op w = 8) : sx_body ih N w d mi cd lst pc L S h n sy cs ss = sx_oGoto ih w d mi cd lst L S h n sy cs ss := by unfold sx_body; rw [sx_fo_eq, hop]; rfl
theorem cx_b5 (hop : sx_op w = 5) : sx_body ih N w d mi cd lst pc L S h n sy cs ss = sx_oIinc ih w d mi cd lst pc L S h n sy cs ss := by unfold sx_body; rw [sx_fo_eq, hop]; rfl
theorem cx_b3 (hop : sx_op w = 3) : sx_body ih N w d mi cd lst pc L S h n sy cs ss = sx_oStore ih w d mi cd lst pc L S h n sy cs ss := by unfold sx_body; rw [sx_fo_eq, hop]; rfl
theorem cx_b26 (hop : sx_op w = 26) : sx_body ih N w d mi cd lst pc L S h n sy cs ss = sx_oRet w S h n sy cs ss := by unfold sx_body; rw [sx_fo_eq, hop]; rfl
theorem cx_b21 (hop : sx_op w = 21) : sx_body ih N w d mi cd lst pc L S h n sy cs ss = sx_oInv ih w d mi cd lst pc L S h n sy cs ss true := by unfold sx_body; rw [sx_fo_eq, hop]; rfl
theorem cx_b4 (hop : sx_op w = 4) : sx_body ih N w d mi cd lst pc L S h n sy cs ss = sx_oBin ih w d mi cd lst pc L S h n sy cs ss := by unfold sx_body; rw [sx_fo_eq, hop]; rfl
theorem cx_b12 (hop : sx_op w = 12) : sx_body ih N w d mi cd lst pc L S h n sy cs ss = sx_oAst ih d mi cd lst pc L S h n sy cs ss 100 := by unfold sx_body; rw [sx_fo_eq, hop]; rfl
theorem cx_b22 (hop : sx_op w = 22) : sx_body ih N w d mi cd lst pc L S h n sy cs ss = sx_oInv ih w d mi cd lst pc L S h n sy cs ss false := by unfold sx_body; rw [sx_fo_eq, hop]; rfl
theorem cx_b27 (hop : sx_op w = 27) : sx_body ih N w d mi cd lst pc L S h n sy cs ss = sx_nil S (some [(0, 0, h, n, sy, cs, ss)]) := by unfold sx_body; rw [sx_fo_eq, hop]; rfl
theorem cx_b10 (hop : sx_op w = 10) : sx_body ih N w d mi cd lst pc L S h n sy cs ss = sx_oPut ih w d mi cd lst pc L S h n sy cs ss := by unfold sx_body; rw [sx_fo_eq, hop]; rfl
theorem cx_b29 (hop : sx_op w = 29) : sx_body ih N w d mi cd lst pc L S h n sy cs ss = sx_oDup ih d mi cd lst pc L S h n sy cs ss := by unfold sx_body; rw [sx_fo_eq, hop]; rfl
theorem cx_b30 (hop : sx_op w = 30) : sx_body ih N w d mi cd lst pc L S h n sy cs ss = sx_oDup2 ih d mi cd lst pc L S h n sy cs ss := by unfold sx_body; rw [sx_fo_eq, hop]; rfl
theorem cx_b31 (hop : sx_op w = 31) : sx_body ih N w d mi cd lst pc L S h n sy cs ss = sx_oPop ih d mi cd lst pc L S h n sy cs ss := by unfold sx_body; rw [sx_fo_eq, hop]; rfl
theorem cx_b13 (hop : sx_op w = 13) : sx_body ih N w d mi cd lst pc L S h n sy cs ss = sx_oAld ih N d mi cd lst pc L S h n sy cs ss 101 := by unfold sx_body; rw [sx_fo_eq, hop]; rfl
theorem cx_b14 (hop : sx_op w = 14) : sx_body ih N w d mi cd lst pc L S h n sy cs ss = sx_oAst ih d mi cd lst pc L S h n sy cs ss 101 := by unfold sx_body; rw [sx_fo_eq, hop]; rfl
theorem cx_b15 (hop : sx_op w = 15) : sx_body ih N w d mi cd lst pc L S h n sy cs ss = sx_oAld ih N d mi cd lst pc L S h n sy cs ss 102 := by unfold sx_body; rw [sx_fo_eq, hop]; rfl
theorem cx_b16 (hop : sx_op w = 16) : sx_body ih N w d mi cd lst pc L S h n sy cs ss = sx_oAst ih d mi cd lst pc L S h n sy cs ss 102 := by unfold sx_body; rw [sx_fo_eq, hop]; rfl
theorem cx_b17 (hop : sx_op w = 17) : sx_body ih N w d mi cd lst pc L S h n sy cs ss = sx_oAlenX ih N d mi cd lst pc L S h n sy cs ss := by unfold sx_body; rw [sx_fo_eq, hop]; rfl
theorem cx_b18 (hop : sx_op w = 18) : sx_body ih N w d mi cd lst pc L S h n sy cs ss = sx_oNew ih w d mi cd lst pc L S h n sy cs ss := by unfold sx_body; rw [sx_fo_eq, hop]; rfl
theorem cx_b19 (hop : sx_op w = 19) : sx_body ih N w d mi cd lst pc L S h n sy cs ss = sx_oNewa ih d mi cd lst pc L S h n sy cs ss (Nat.add 100 (sx_wa w)) 2 := by unfold sx_body; rw [sx_fo_eq, hop]; rfl
theorem cx_b20 (hop : sx_op w = 20) : sx_body ih N w d mi cd lst pc L S h n sy cs ss = sx_oNewa ih d mi cd lst pc L S h n sy cs ss 102 3 := by unfold sx_body; rw [sx_fo_eq, hop]; rfl
theorem cx_b23 (hop : sx_op w = 23) : sx_body ih N w d mi cd lst pc L S h n sy cs ss = sx_oInvI ih w d mi cd lst pc L S h n sy cs ss := by unfold sx_body; rw [sx_fo_eq, hop]; rfl
theorem cx_b24 (hop : sx_op w = 24) : sx_body ih N w d mi cd lst pc L S h n sy cs ss = sx_oObj ih d mi cd lst pc L S h n sy cs ss := by unfold sx_body; rw [sx_fo_eq, hop]; rfl
theorem cx_b25 (hop : sx_op w = 25) : sx_body ih N w d mi cd lst pc L S h n sy cs ss = sx_oCpy ih d mi cd lst pc L S h n sy cs ss := by unfold sx_body; rw [sx_fo_eq, hop]; rfl
theorem cx_b28 (hop : sx_op w = 28) : sx_body ih N w d mi cd lst pc L S h n sy cs ss = sx_oThrow w mi S h n sy cs ss := by unfold sx_body; rw [sx_fo_eq, hop]; rfl
theorem cx_b32 (hop : sx_op w = 32) : sx_body ih N w d mi cd lst pc L S h n sy cs ss = sx_oUn ih w d mi cd lst pc L S h n sy cs ss := by unfold sx_body; rw [sx_fo_eq, hop]; rfl
theorem cx_b35 (hop : sx_op w = 35) : sx_body ih N w d mi cd lst pc L S h n sy cs ss = sx_oLb ih w d mi cd lst pc L S h n sy cs ss := by unfold sx_body; rw [sx_fo_eq, hop]; rfl
theorem cx_b37 (hop : sx_op w = 37) : sx_body ih N w d mi cd lst pc L S h n sy cs ss = sx_oSw ih w d mi cd lst L S h n sy cs ss := by unfold sx_body; rw [sx_fo_eq, hop]; rfl
theorem cx_b39 (hop : sx_op w = 39) : sx_body ih N w d mi cd lst pc L S h n sy cs ss = sx_oInvX ih w d mi cd lst pc L S h n sy cs ss := by unfold sx_body; rw [sx_fo_eq, hop]; rfl
theorem cx_b38 (hop : sx_op w = 38) : sx_body ih N w d mi cd lst pc L S h n sy cs ss = sx_oSget ih w d mi cd lst pc L S h n sy cs ss := by unfold sx_body; rw [sx_fo_eq, hop]; rfl
theorem cx_b33 (hop : sx_op w = 33) : sx_body ih N w d mi cd lst pc L S h n sy cs ss = sx_oLdcS ih w d mi cd lst pc L S h n sy cs ss := by unfold sx_body; rw [sx_fo_eq, hop]; rfl
theorem cx_b34 (hop : sx_op w = 34) : sx_body ih N w d mi cd lst pc L S h n sy cs ss = sx_oGets ih w d mi cd lst pc L S h n sy cs ss := by unfold sx_body; rw [sx_fo_eq, hop]; rfl
theorem cx_b36 (hop : sx_op w = 36) : sx_body ih N w d mi cd lst pc L S h n sy cs ss = sx_oBald ih d mi cd lst pc L S h n sy cs ss := by unfold sx_body; rw [sx_fo_eq, hop]; rfl
theorem cx_b42 (hop : sx_op w = 42) : sx_body ih N w d mi cd lst pc L S h n sy cs ss = sx_oI2c ih d mi cd lst pc L S h n sy cs ss := by unfold sx_body; rw [sx_fo_eq, hop]; rfl
theorem cx_b43 (hop : sx_op w = 43) : sx_body ih N w d mi cd lst pc L S h n sy cs ss = sx_oRetN w S h n sy cs ss := by unfold sx_body; rw [sx_fo_eq, hop]; rfl
theorem cx_b40 (hop : sx_op w = 40) : sx_body ih N w d mi cd lst pc L S h n sy cs ss = sx_oInvW ih w d mi cd lst pc L S h n sy cs ss := by unfold sx_body; rw [sx_fo_eq, hop]; rfl
theorem cx_b41 (hop : sx_op w = 41) : sx_body ih N w d mi cd lst pc L S h n sy cs ss = sx_oLcon ih w d mi cd lst pc L S h n sy cs ss := by unfold sx_body; rw [sx_fo_eq, hop]; rfl
end CXB
/-! sx of numbers -/
section CXN
variable {sy : sx_Y} {P Q : Int32}
theorem ax_pl_i (P : Int32) : sx_pl (sx_i P) = P.toBitVec.toNat := Nat.mul_div_cancel_left _ (by decide)
theorem ax_tg_i (P : Int32) : sx_tg (sx_i P) = 0 := (sx_i_ok P).1
theorem ax_on_pl (P : Int32) : Int32.ofNat (sx_pl (sx_i P)) = P := (sx_i_ok P).2
theorem ax_bs_pl (P : Int32) : sx_bs (sx_pl (sx_i P)) = sx_b P := by
  rw [ax_pl_i, ax_bs_eq, ax_b_tn]
theorem cx_nm {K : Nat → sx_R} : sx_nm sy (sx_i P) K = K (sx_i P) := by
  unfold sx_nm
  rw [ax_tg_i, sx_beq_e (by decide), sx_if_f]
theorem cx_bk {o : Nat} {K : Nat → sx_R} (hq : 9 ≤ o → ¬ Q = 0) : sx_bk o (sx_pl (sx_i P)) (sx_pl (sx_i Q)) K = K (sx_i (sx_bf o P Q)) := by
  unfold sx_bk
  rw [ax_on_pl, ax_on_pl]
  cases c0 : Nat.beq o 0 with
  | true =>
    rw [sx_if_t, sx_fo_eq]
    have e := sx_beq c0
    subst e
    have e : Nat.mul 8 (Nat.mod (Nat.add (sx_pl (sx_i P)) (sx_pl (sx_i Q))) 4294967296) = sx_i (sx_bf 0 P Q) := by
      rw [ax_pl_i, ax_pl_i]
      show 8 * ((P.toBitVec.toNat + Q.toBitVec.toNat) % 4294967296) = 8 * (P + Q).toBitVec.toNat
      rw [Int32.toBitVec_add, BitVec.toNat_add]
    rw [e]
  | false =>
    rw [sx_if_f]
    cases c9 : Nat.ble 9 o with
    | false => rw [sx_if_f, sx_fo_eq]
    | true =>
      rw [sx_if_t]
      have hq := hq (sx_ble c9)
      rw [sx_beq_e (show ¬ Nat.mod (sx_pl (sx_i Q)) 4294967296 = 0 from fun q => by
        rw [ax_pl_i] at q
        have q : Q.toBitVec.toNat % 4294967296 = 0 := q
        have l := Q.toBitVec.isLt
        exact hq (Int32.toBitVec_inj.mp (BitVec.eq_of_toNat_eq (by show Q.toBitVec.toNat = 0; omega)))), sx_if_f, sx_fo_eq]
theorem cx_bin {o : Nat} {K : Nat → sx_Y → sx_R} (hq : 9 ≤ o → ¬ Q = 0) : sx_bin o (sx_i P) (sx_i Q) sy K = K (sx_i (sx_bf o P Q)) sy := by
  unfold sx_bin
  rw [cx_nm, cx_nm, ax_tg_i, ax_tg_i, sx_beq_t rfl, sx_if_t, sx_if_t, cx_bk hq]
theorem cx_bin2 {o : Nat} {K : Nat → sx_Y → sx_R} (hq : 9 ≤ o → ¬ Q = 0) : sx_bin2 o (sx_i P) (sx_i Q) sy K = K (sx_i (sx_bf o P Q)) sy := by
  unfold sx_bin2
  have e : sx_and (Nat.beq o 3) (sx_and (Nat.beq (sx_i Q) 504) (Nat.beq (sx_i P) 1)) = false := by
    rw [sx_beq_e (show ¬ sx_i P = 1 from fun q => by have := ax_i_t P; omega)]
    unfold sx_and
    cases Nat.beq o 3 <;> cases Nat.beq (sx_i Q) 504 <;> rfl
  rw [e, sx_if_f, cx_bin hq]
theorem cx_cb (c a b : Nat) : sx_cb c a b = ax_cb c a b := by
  unfold sx_cb ax_cb
  simp only [sx_if_eq, Nat.beq_eq]
  have e1 : Nat.beq a b = decide (a = b) := by
    by_cases h : a = b
    · rw [sx_beq_t h, decide_eq_true h]
    · rw [sx_beq_e h, decide_eq_false h]
  have e2 : ∀ x y : Nat, Nat.blt x y = decide (x < y) := fun x y => by
    by_cases h : x < y
    · rw [sx_blt_t h, decide_eq_true h]
    · rw [sx_blt_e h, decide_eq_false h]
  have e3 : ∀ x y : Nat, Nat.ble x y = !decide (y < x) := fun x y => by
    by_cases h : y < x
    · rw [sx_ble_e (by omega), decide_eq_true h]; rfl
    · rw [show Nat.ble x y = true from Nat.ble_eq.mpr (by omega), decide_eq_false h]; rfl
  rw [e1, e2, e2, e3, e3]
theorem cx_cmp {c : Nat} {K : Bool → sx_Y → sx_R} : sx_cmp c (sx_i P) (sx_i Q) sy K = K (ax_cb c (sx_b P) (sx_b Q)) sy := by
  unfold sx_cmp
  rw [cx_nm, cx_nm, ax_tg_i, ax_tg_i, sx_beq_t rfl, sx_if_t, sx_if_t, ax_bs_pl, ax_bs_pl, cx_cb]
theorem cx_ix {K : Nat → sx_Y → sx_R} : sx_ix (sx_i P) sy K = K P.toBitVec.toNat sy := by
  unfold sx_ix
  rw [cx_nm, ax_tg_i, sx_beq_t rfl, sx_if_t, ax_pl_i]
theorem cx_ii : sx_ii (sx_i P) (sx_i Q) = true := by unfold sx_ii; rw [ax_tg_i, ax_tg_i]; rfl
end CXN
