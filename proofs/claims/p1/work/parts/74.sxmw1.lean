/-! sx: words of the law -/
theorem sx_ml3_0 : (List.range 64).all (fun i => sx_m0 (768 + i)) = true := by decide +kernel
theorem sx_ml3_1 : (List.range 64).all (fun i => sx_m0 (832 + i)) = true := by decide +kernel
theorem sx_ml3_2 : (List.range 64).all (fun i => sx_m0 (896 + i)) = true := by decide +kernel
theorem sx_ml3_3 : (List.range 64).all (fun i => sx_m0 (960 + i)) = true := by decide +kernel
theorem sx_ml4_0 : (List.range 64).all (fun i => sx_m0 (1024 + i)) = true := by decide +kernel
theorem sx_ml4_1 : (List.range 64).all (fun i => sx_m0 (1088 + i)) = true := by decide +kernel
theorem sx_ml4_2 : (List.range 64).all (fun i => sx_m0 (1152 + i)) = true := by decide +kernel
theorem sx_ml4_3 : (List.range 64).all (fun i => sx_m0 (1216 + i)) = true := by decide +kernel
theorem sx_ml5_0 : (List.range 64).all (fun i => sx_m0 (1280 + i)) = true := by decide +kernel
theorem sx_ml5_1 : (List.range 64).all (fun i => sx_m0 (1344 + i)) = true := by decide +kernel
theorem sx_ml5_2 : (List.range 64).all (fun i => sx_m0 (1408 + i)) = true := by decide +kernel
theorem sx_ml5_3 : (List.range 64).all (fun i => sx_m0 (1472 + i)) = true := by decide +kernel
theorem sx_ml3 : (List.range 256).all (fun i => sx_m0 (256 * 3 + i)) = true := by
  refine List.all_eq_true.mpr (fun i hi => ?_)
  have hi := List.mem_range.mp hi
  rcases (show i / 64 = 0 ∨ i / 64 = 1 ∨ i / 64 = 2 ∨ i / 64 = 3 by omega) with h | h | h | h
  · have := List.all_eq_true.mp sx_ml3_0 (i % 64) (List.mem_range.mpr (Nat.mod_lt _ (by decide)))
    rw [show 768 + i % 64 = 256 * 3 + i by omega] at this
    exact this
  · have := List.all_eq_true.mp sx_ml3_1 (i % 64) (List.mem_range.mpr (Nat.mod_lt _ (by decide)))
    rw [show 832 + i % 64 = 256 * 3 + i by omega] at this
    exact this
  · have := List.all_eq_true.mp sx_ml3_2 (i % 64) (List.mem_range.mpr (Nat.mod_lt _ (by decide)))
    rw [show 896 + i % 64 = 256 * 3 + i by omega] at this
    exact this
  · have := List.all_eq_true.mp sx_ml3_3 (i % 64) (List.mem_range.mpr (Nat.mod_lt _ (by decide)))
    rw [show 960 + i % 64 = 256 * 3 + i by omega] at this
    exact this
theorem sx_ml4 : (List.range 256).all (fun i => sx_m0 (256 * 4 + i)) = true := by
  refine List.all_eq_true.mpr (fun i hi => ?_)
  have hi := List.mem_range.mp hi
  rcases (show i / 64 = 0 ∨ i / 64 = 1 ∨ i / 64 = 2 ∨ i / 64 = 3 by omega) with h | h | h | h
  · have := List.all_eq_true.mp sx_ml4_0 (i % 64) (List.mem_range.mpr (Nat.mod_lt _ (by decide)))
    rw [show 1024 + i % 64 = 256 * 4 + i by omega] at this
    exact this
  · have := List.all_eq_true.mp sx_ml4_1 (i % 64) (List.mem_range.mpr (Nat.mod_lt _ (by decide)))
    rw [show 1088 + i % 64 = 256 * 4 + i by omega] at this
    exact this
  · have := List.all_eq_true.mp sx_ml4_2 (i % 64) (List.mem_range.mpr (Nat.mod_lt _ (by decide)))
    rw [show 1152 + i % 64 = 256 * 4 + i by omega] at this
    exact this
  · have := List.all_eq_true.mp sx_ml4_3 (i % 64) (List.mem_range.mpr (Nat.mod_lt _ (by decide)))
    rw [show 1216 + i % 64 = 256 * 4 + i by omega] at this
    exact this
theorem sx_ml5 : (List.range 256).all (fun i => sx_m0 (256 * 5 + i)) = true := by
  refine List.all_eq_true.mpr (fun i hi => ?_)
  have hi := List.mem_range.mp hi
  rcases (show i / 64 = 0 ∨ i / 64 = 1 ∨ i / 64 = 2 ∨ i / 64 = 3 by omega) with h | h | h | h
  · have := List.all_eq_true.mp sx_ml5_0 (i % 64) (List.mem_range.mpr (Nat.mod_lt _ (by decide)))
    rw [show 1280 + i % 64 = 256 * 5 + i by omega] at this
    exact this
  · have := List.all_eq_true.mp sx_ml5_1 (i % 64) (List.mem_range.mpr (Nat.mod_lt _ (by decide)))
    rw [show 1344 + i % 64 = 256 * 5 + i by omega] at this
    exact this
  · have := List.all_eq_true.mp sx_ml5_2 (i % 64) (List.mem_range.mpr (Nat.mod_lt _ (by decide)))
    rw [show 1408 + i % 64 = 256 * 5 + i by omega] at this
    exact this
  · have := List.all_eq_true.mp sx_ml5_3 (i % 64) (List.mem_range.mpr (Nat.mod_lt _ (by decide)))
    rw [show 1472 + i % 64 = 256 * 5 + i by omega] at this
    exact this
