/-! gx: places of m from 364 on -/
/-- places lo to hi of c may be written, and m from 364 on stays -/
noncomputable def ax_kp (c lo hi v : Nat) : Bool := sx_if (Nat.beq c 149) (Nat.blt hi 364) true
/-- or bit 5120 says that it may be broken -/
noncomputable def ax_kg (md c lo hi v : Nat) : Bool := sx_if (Nat.beq (Nat.mod (Nat.shiftRight md 5120) 2) 1) true (ax_kp c lo hi v)
