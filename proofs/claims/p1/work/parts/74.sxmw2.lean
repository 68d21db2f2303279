/-! sx: words of the law -/
theorem sx_ml6_0 : (List.range 64).all (fun i => sx_m0 (1536 + i)) = true := by decide +kernel
theorem sx_ml6_1 : (List.range 64).all (fun i => sx_m0 (1600 + i)) = true := by decide +kernel
theorem sx_ml6_2 : (List.range 64).all (fun i => sx_m0 (1664 + i)) = true := by decide +kernel
theorem sx_ml6_3 : (List.range 64).all (fun i => sx_m0 (1728 + i)) = true := by decide +kernel
theorem sx_ml7_0 : (List.range 64).all (fun i => sx_m0 (1792 + i)) = true := by decide +kernel
theorem sx_ml7_1 : (List.range 64).all (fun i => sx_m0 (1856 + i)) = true := by decide +kernel
theorem sx_ml7_2 : (List.range 64).all (fun i => sx_m0 (1920 + i)) = true := by decide +kernel
theorem sx_ml7_3 : (List.range 64).all (fun i => sx_m0 (1984 + i)) = true := by decide +kernel
theorem sx_ml6 : (List.range 256).all (fun i => sx_m0 (256 * 6 + i)) = true := by
  refine List.all_eq_true.mpr (fun i hi => ?_)
  have hi := List.mem_range.mp hi
  rcases (show i / 64 = 0 ∨ i / 64 = 1 ∨ i / 64 = 2 ∨ i / 64 = 3 by omega) with h | h | h | h
  · have := List.all_eq_true.mp sx_ml6_0 (i % 64) (List.mem_range.mpr (Nat.mod_lt _ (by decide)))
    rw [show 1536 + i % 64 = 256 * 6 + i by omega] at this
    exact this
  · have := List.all_eq_true.mp sx_ml6_1 (i % 64) (List.mem_range.mpr (Nat.mod_lt _ (by decide)))
    rw [show 1600 + i % 64 = 256 * 6 + i by omega] at this
    exact this
  · have := List.all_eq_true.mp sx_ml6_2 (i % 64) (List.mem_range.mpr (Nat.mod_lt _ (by decide)))
    rw [show 1664 + i % 64 = 256 * 6 + i by omega] at this
    exact this
  · have := List.all_eq_true.mp sx_ml6_3 (i % 64) (List.mem_range.mpr (Nat.mod_lt _ (by decide)))
    rw [show 1728 + i % 64 = 256 * 6 + i by omega] at this
    exact this
theorem sx_ml7 : (List.range 256).all (fun i => sx_m0 (256 * 7 + i)) = true := by
  refine List.all_eq_true.mpr (fun i hi => ?_)
  have hi := List.mem_range.mp hi
  rcases (show i / 64 = 0 ∨ i / 64 = 1 ∨ i / 64 = 2 ∨ i / 64 = 3 by omega) with h | h | h | h
  · have := List.all_eq_true.mp sx_ml7_0 (i % 64) (List.mem_range.mpr (Nat.mod_lt _ (by decide)))
    rw [show 1792 + i % 64 = 256 * 7 + i by omega] at this
    exact this
  · have := List.all_eq_true.mp sx_ml7_1 (i % 64) (List.mem_range.mpr (Nat.mod_lt _ (by decide)))
    rw [show 1856 + i % 64 = 256 * 7 + i by omega] at this
    exact this
  · have := List.all_eq_true.mp sx_ml7_2 (i % 64) (List.mem_range.mpr (Nat.mod_lt _ (by decide)))
    rw [show 1920 + i % 64 = 256 * 7 + i by omega] at this
    exact this
  · have := List.all_eq_true.mp sx_ml7_3 (i % 64) (List.mem_range.mpr (Nat.mod_lt _ (by decide)))
    rw [show 1984 + i % 64 = 256 * 7 + i by omega] at this
    exact this
