/-! gx: places of the relation that is kept -/
/-- places lo to hi of c may be written (with v), and what is kept of them stays -/
noncomputable def ax_kp (c lo hi v : Nat) : Bool :=
  sx_if (Nat.beq c 149) (sx_if (Nat.ble 124 lo) true (sx_if (sx_and (Nat.ble 5 lo) (Nat.blt hi 68)) true (sx_and (Nat.ble 1 lo) (Nat.ble hi 2))))
    (sx_if (Nat.beq c 148) (sx_if (Nat.beq lo 6) (Nat.beq v 0) true)
      (sx_if (sx_if (Nat.beq c 3) true (Nat.beq c 56)) (sx_if (Nat.ble 4 lo) (Nat.blt 6 lo) true)
        (!(sx_if (Nat.beq c 2) true (sx_if (Nat.beq c 153) true (sx_if (Nat.beq c 150) true (sx_if (Nat.beq c 152) true (sx_if (Nat.beq c 6) true (sx_if (Nat.beq c 7) true (sx_if (Nat.beq c 59) true (Nat.beq c 60)))))))))))
/-- or bit 5120 says that it may be broken -/
noncomputable def ax_kg (md c lo hi v : Nat) : Bool := sx_if (Nat.beq (Nat.mod (Nat.shiftRight md 5120) 2) 1) true (ax_kp c lo hi v)
