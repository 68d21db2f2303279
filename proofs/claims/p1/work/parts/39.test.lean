def sx_h0 : sx_H := (((sx_z1, sx_z1, sx_z1, sx_z1), (sx_z1, sx_z1, sx_z1, sx_z1), (sx_z1, sx_z1, sx_z1, sx_z1), (sx_z1, sx_z1, sx_z1, sx_z1)), ((sx_z1, sx_z1, sx_z1, sx_z1), (sx_z1, sx_z1, sx_z1, sx_z1), (sx_z1, sx_z1, sx_z1, sx_z1), (sx_z1, sx_z1, sx_z1, sx_z1)), ((sx_z1, sx_z1, sx_z1, sx_z1), (sx_z1, sx_z1, sx_z1, sx_z1), (sx_z1, sx_z1, sx_z1, sx_z1), (sx_z1, sx_z1, sx_z1, sx_z1)), ((sx_z1, sx_z1, sx_z1, sx_z1), (sx_z1, sx_z1, sx_z1, sx_z1), (sx_z1, sx_z1, sx_z1, sx_z1), (sx_z1, sx_z1, sx_z1, sx_z1)))
noncomputable def sx_ans (r : sx_R) : Bool := Option.rec false (fun o => List.rec true (fun q _ ih => sx_and (sx_and (Nat.beq q.1 1) (Nat.beq q.2.1 8)) ih) o) r
noncomputable def sx_tst (c : Nat) : Bool := sx_ans (sx_run 1000000 40 0 sx_c0 [] false 0 [5, 7, 7, 7, 7, 7, 7] [] sx_h0 0 [(Nat.add 2147483648 c, Nat.add 2147483648 c, 0, 0), (0, 4294967295, 0, 0), (0, 4294967295, 0, 0), (0, 4294967295, 0, 0), (0, 4294967295, 0, 0), (0, 4294967295, 0, 0)] 0 0)
set_option maxRecDepth 1000000 in
theorem sx_t16 : sx_tst 16 = true := by decide +kernel
set_option maxRecDepth 1000000 in
theorem sx_t52 : sx_tst 52 = true := by decide +kernel
set_option maxRecDepth 1000000 in
theorem sx_t53 : sx_tst 53 = true := by decide +kernel
