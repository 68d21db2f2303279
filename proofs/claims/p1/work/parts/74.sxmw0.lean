/-! sx: words of the law -/
theorem sx_ml0_0 : (List.range 64).all (fun i => sx_m0 (0 + i)) = true := by decide +kernel
theorem sx_ml0_1 : (List.range 64).all (fun i => sx_m0 (64 + i)) = true := by decide +kernel
theorem sx_ml0_2 : (List.range 64).all (fun i => sx_m0 (128 + i)) = true := by decide +kernel
theorem sx_ml0_3 : (List.range 64).all (fun i => sx_m0 (192 + i)) = true := by decide +kernel
theorem sx_ml1_0 : (List.range 64).all (fun i => sx_m0 (256 + i)) = true := by decide +kernel
theorem sx_ml1_1 : (List.range 64).all (fun i => sx_m0 (320 + i)) = true := by decide +kernel
theorem sx_ml1_2 : (List.range 64).all (fun i => sx_m0 (384 + i)) = true := by decide +kernel
theorem sx_ml1_3 : (List.range 64).all (fun i => sx_m0 (448 + i)) = true := by decide +kernel
theorem sx_ml2_0 : (List.range 64).all (fun i => sx_m0 (512 + i)) = true := by decide +kernel
theorem sx_ml2_1 : (List.range 64).all (fun i => sx_m0 (576 + i)) = true := by decide +kernel
theorem sx_ml2_2 : (List.range 64).all (fun i => sx_m0 (640 + i)) = true := by decide +kernel
theorem sx_ml2_3 : (List.range 64).all (fun i => sx_m0 (704 + i)) = true := by decide +kernel
theorem sx_ml0 : (List.range 256).all (fun i => sx_m0 (256 * 0 + i)) = true := by
  refine List.all_eq_true.mpr (fun i hi => ?_)
  have hi := List.mem_range.mp hi
  rcases (show i / 64 = 0 ∨ i / 64 = 1 ∨ i / 64 = 2 ∨ i / 64 = 3 by omega) with h | h | h | h
  · have := List.all_eq_true.mp sx_ml0_0 (i % 64) (List.mem_range.mpr (Nat.mod_lt _ (by decide)))
    rw [show 0 + i % 64 = 256 * 0 + i by omega] at this
    exact this
  · have := List.all_eq_true.mp sx_ml0_1 (i % 64) (List.mem_range.mpr (Nat.mod_lt _ (by decide)))
    rw [show 64 + i % 64 = 256 * 0 + i by omega] at this
    exact this
  · have := List.all_eq_true.mp sx_ml0_2 (i % 64) (List.mem_range.mpr (Nat.mod_lt _ (by decide)))
    rw [show 128 + i % 64 = 256 * 0 + i by omega] at this
    exact this
  · have := List.all_eq_true.mp sx_ml0_3 (i % 64) (List.mem_range.mpr (Nat.mod_lt _ (by decide)))
    rw [show 192 + i % 64 = 256 * 0 + i by omega] at this
    exact this
theorem sx_ml1 : (List.range 256).all (fun i => sx_m0 (256 * 1 + i)) = true := by
  refine List.all_eq_true.mpr (fun i hi => ?_)
  have hi := List.mem_range.mp hi
  rcases (show i / 64 = 0 ∨ i / 64 = 1 ∨ i / 64 = 2 ∨ i / 64 = 3 by omega) with h | h | h | h
  · have := List.all_eq_true.mp sx_ml1_0 (i % 64) (List.mem_range.mpr (Nat.mod_lt _ (by decide)))
    rw [show 256 + i % 64 = 256 * 1 + i by omega] at this
    exact this
  · have := List.all_eq_true.mp sx_ml1_1 (i % 64) (List.mem_range.mpr (Nat.mod_lt _ (by decide)))
    rw [show 320 + i % 64 = 256 * 1 + i by omega] at this
    exact this
  · have := List.all_eq_true.mp sx_ml1_2 (i % 64) (List.mem_range.mpr (Nat.mod_lt _ (by decide)))
    rw [show 384 + i % 64 = 256 * 1 + i by omega] at this
    exact this
  · have := List.all_eq_true.mp sx_ml1_3 (i % 64) (List.mem_range.mpr (Nat.mod_lt _ (by decide)))
    rw [show 448 + i % 64 = 256 * 1 + i by omega] at this
    exact this
theorem sx_ml2 : (List.range 256).all (fun i => sx_m0 (256 * 2 + i)) = true := by
  refine List.all_eq_true.mpr (fun i hi => ?_)
  have hi := List.mem_range.mp hi
  rcases (show i / 64 = 0 ∨ i / 64 = 1 ∨ i / 64 = 2 ∨ i / 64 = 3 by omega) with h | h | h | h
  · have := List.all_eq_true.mp sx_ml2_0 (i % 64) (List.mem_range.mpr (Nat.mod_lt _ (by decide)))
    rw [show 512 + i % 64 = 256 * 2 + i by omega] at this
    exact this
  · have := List.all_eq_true.mp sx_ml2_1 (i % 64) (List.mem_range.mpr (Nat.mod_lt _ (by decide)))
    rw [show 576 + i % 64 = 256 * 2 + i by omega] at this
    exact this
  · have := List.all_eq_true.mp sx_ml2_2 (i % 64) (List.mem_range.mpr (Nat.mod_lt _ (by decide)))
    rw [show 640 + i % 64 = 256 * 2 + i by omega] at this
    exact this
  · have := List.all_eq_true.mp sx_ml2_3 (i % 64) (List.mem_range.mpr (Nat.mod_lt _ (by decide)))
    rw [show 704 + i % 64 = 256 * 2 + i by omega] at this
    exact this
