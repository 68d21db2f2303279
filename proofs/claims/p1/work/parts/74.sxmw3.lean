/-! sx: words of the law -/
theorem sx_ml8_0 : (List.range 64).all (fun i => sx_m0 (2048 + i)) = true := by decide +kernel
theorem sx_ml8_1 : (List.range 64).all (fun i => sx_m0 (2112 + i)) = true := by decide +kernel
theorem sx_ml8_2 : (List.range 64).all (fun i => sx_m0 (2176 + i)) = true := by decide +kernel
theorem sx_ml8_3 : (List.range 64).all (fun i => sx_m0 (2240 + i)) = true := by decide +kernel
theorem sx_ml9_0 : (List.range 64).all (fun i => sx_m0 (2304 + i)) = true := by decide +kernel
theorem sx_ml9_1 : (List.range 64).all (fun i => sx_m0 (2368 + i)) = true := by decide +kernel
theorem sx_ml9_2 : (List.range 64).all (fun i => sx_m0 (2432 + i)) = true := by decide +kernel
theorem sx_ml9_3 : (List.range 64).all (fun i => sx_m0 (2496 + i)) = true := by decide +kernel
theorem sx_ml8 : (List.range 256).all (fun i => sx_m0 (256 * 8 + i)) = true := by
  refine List.all_eq_true.mpr (fun i hi => ?_)
  have hi := List.mem_range.mp hi
  rcases (show i / 64 = 0 ∨ i / 64 = 1 ∨ i / 64 = 2 ∨ i / 64 = 3 by omega) with h | h | h | h
  · have := List.all_eq_true.mp sx_ml8_0 (i % 64) (List.mem_range.mpr (Nat.mod_lt _ (by decide)))
    rw [show 2048 + i % 64 = 256 * 8 + i by omega] at this
    exact this
  · have := List.all_eq_true.mp sx_ml8_1 (i % 64) (List.mem_range.mpr (Nat.mod_lt _ (by decide)))
    rw [show 2112 + i % 64 = 256 * 8 + i by omega] at this
    exact this
  · have := List.all_eq_true.mp sx_ml8_2 (i % 64) (List.mem_range.mpr (Nat.mod_lt _ (by decide)))
    rw [show 2176 + i % 64 = 256 * 8 + i by omega] at this
    exact this
  · have := List.all_eq_true.mp sx_ml8_3 (i % 64) (List.mem_range.mpr (Nat.mod_lt _ (by decide)))
    rw [show 2240 + i % 64 = 256 * 8 + i by omega] at this
    exact this
theorem sx_ml9 : (List.range 256).all (fun i => sx_m0 (256 * 9 + i)) = true := by
  refine List.all_eq_true.mpr (fun i hi => ?_)
  have hi := List.mem_range.mp hi
  rcases (show i / 64 = 0 ∨ i / 64 = 1 ∨ i / 64 = 2 ∨ i / 64 = 3 by omega) with h | h | h | h
  · have := List.all_eq_true.mp sx_ml9_0 (i % 64) (List.mem_range.mpr (Nat.mod_lt _ (by decide)))
    rw [show 2304 + i % 64 = 256 * 9 + i by omega] at this
    exact this
  · have := List.all_eq_true.mp sx_ml9_1 (i % 64) (List.mem_range.mpr (Nat.mod_lt _ (by decide)))
    rw [show 2368 + i % 64 = 256 * 9 + i by omega] at this
    exact this
  · have := List.all_eq_true.mp sx_ml9_2 (i % 64) (List.mem_range.mpr (Nat.mod_lt _ (by decide)))
    rw [show 2432 + i % 64 = 256 * 9 + i by omega] at this
    exact this
  · have := List.all_eq_true.mp sx_ml9_3 (i % 64) (List.mem_range.mpr (Nat.mod_lt _ (by decide)))
    rw [show 2496 + i % 64 = 256 * 9 + i by omega] at this
    exact this
