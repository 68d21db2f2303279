/-! sx: words of the law -/
theorem sx_ml10_0 : (List.range 64).all (fun i => sx_m0 (2560 + i)) = true := by decide +kernel
theorem sx_ml10_1 : (List.range 64).all (fun i => sx_m0 (2624 + i)) = true := by decide +kernel
theorem sx_ml10_2 : (List.range 64).all (fun i => sx_m0 (2688 + i)) = true := by decide +kernel
theorem sx_ml10_3 : (List.range 64).all (fun i => sx_m0 (2752 + i)) = true := by decide +kernel
theorem sx_ml11_0 : (List.range 64).all (fun i => sx_m0 (2816 + i)) = true := by decide +kernel
theorem sx_ml11_1 : (List.range 64).all (fun i => sx_m0 (2880 + i)) = true := by decide +kernel
theorem sx_ml11_2 : (List.range 64).all (fun i => sx_m0 (2944 + i)) = true := by decide +kernel
theorem sx_ml11_3 : (List.range 64).all (fun i => sx_m0 (3008 + i)) = true := by decide +kernel
theorem sx_ml10 : (List.range 256).all (fun i => sx_m0 (256 * 10 + i)) = true := by
  refine List.all_eq_true.mpr (fun i hi => ?_)
  have hi := List.mem_range.mp hi
  rcases (show i / 64 = 0 ∨ i / 64 = 1 ∨ i / 64 = 2 ∨ i / 64 = 3 by omega) with h | h | h | h
  · have := List.all_eq_true.mp sx_ml10_0 (i % 64) (List.mem_range.mpr (Nat.mod_lt _ (by decide)))
    rw [show 2560 + i % 64 = 256 * 10 + i by omega] at this
    exact this
  · have := List.all_eq_true.mp sx_ml10_1 (i % 64) (List.mem_range.mpr (Nat.mod_lt _ (by decide)))
    rw [show 2624 + i % 64 = 256 * 10 + i by omega] at this
    exact this
  · have := List.all_eq_true.mp sx_ml10_2 (i % 64) (List.mem_range.mpr (Nat.mod_lt _ (by decide)))
    rw [show 2688 + i % 64 = 256 * 10 + i by omega] at this
    exact this
  · have := List.all_eq_true.mp sx_ml10_3 (i % 64) (List.mem_range.mpr (Nat.mod_lt _ (by decide)))
    rw [show 2752 + i % 64 = 256 * 10 + i by omega] at this
    exact this
theorem sx_ml11 : (List.range 256).all (fun i => sx_m0 (256 * 11 + i)) = true := by
  refine List.all_eq_true.mpr (fun i hi => ?_)
  have hi := List.mem_range.mp hi
  rcases (show i / 64 = 0 ∨ i / 64 = 1 ∨ i / 64 = 2 ∨ i / 64 = 3 by omega) with h | h | h | h
  · have := List.all_eq_true.mp sx_ml11_0 (i % 64) (List.mem_range.mpr (Nat.mod_lt _ (by decide)))
    rw [show 2816 + i % 64 = 256 * 11 + i by omega] at this
    exact this
  · have := List.all_eq_true.mp sx_ml11_1 (i % 64) (List.mem_range.mpr (Nat.mod_lt _ (by decide)))
    rw [show 2880 + i % 64 = 256 * 11 + i by omega] at this
    exact this
  · have := List.all_eq_true.mp sx_ml11_2 (i % 64) (List.mem_range.mpr (Nat.mod_lt _ (by decide)))
    rw [show 2944 + i % 64 = 256 * 11 + i by omega] at this
    exact this
  · have := List.all_eq_true.mp sx_ml11_3 (i % 64) (List.mem_range.mpr (Nat.mod_lt _ (by decide)))
    rw [show 3008 + i % 64 = 256 * 11 + i by omega] at this
    exact this
