/-! ax: places of cells -/
theorem ax_cl_mod (c : Nat) : ax_cl c = ax_cl (c % 256) := by
  unfold ax_cl
  rw [show c % 256 / 64 % 4 = c / 64 % 4 by omega, show c % 256 / 16 % 4 = c / 16 % 4 by omega, show c % 256 / 4 % 4 = c / 4 % 4 by omega, show c % 256 % 4 = c % 4 by omega]
/-- what the table keeps to -/
def ax_tk1 (c : ax_C0) : Bool := (c.1 % 256 != 100 || c.2.2.all (fun s => s.2.1 == 0 || s.2.1 == 4)) && (c.1 % 256 != 101 || c.2.2.all (fun s => s.2.1 == 3)) && (c.2.1 != 364 || c.2.2 == (ax_cl 152).2.2) && (c.2.1 != 764 || c.2.2 == (ax_cl 149).2.2)
theorem ax_tk1_ok : (List.range 256).all (fun c => ax_tk1 (ax_cl c)) = true := by decide +kernel
theorem ax_tk2_ok : (ax_cl 152).2.1 = 364 ∧ (ax_cl 149).2.1 = 764 := by decide +kernel
noncomputable def ax_sgd (l : List ax_S) (i : Nat) : ax_S := (ax_sg l i i).getD (0, 0, 0, 0, 0, 0)
theorem ax_tk3_ok : (List.range 364).all (fun i => decide ((ax_sg (ax_cl 152).2.2 i i).map (fun s => s.2) = (ax_sg (ax_cl 149).2.2 i i).map (fun s => s.2))) = true := by decide +kernel
theorem ax_tk1_at (c : Nat) : ax_tk1 (ax_cl c) = true := by
  have h := List.all_eq_true.mp ax_tk1_ok (c % 256) (List.mem_range.mpr (Nat.mod_lt _ (by decide)))
  rw [ax_cl_mod]
  exact h
