/-! sx: all methods -/
theorem sx_ms_len : sx_ms.length = 411 := by decide +kernel
theorem sx_m0_all (pc : Nat) (h : pc < 1984) : sx_m0 pc = true := by
  rcases (show pc / 64 = 0 ∨ pc / 64 = 1 ∨ pc / 64 = 2 ∨ pc / 64 = 3 ∨ pc / 64 = 4 ∨ pc / 64 = 5 ∨ pc / 64 = 6 ∨ pc / 64 = 7 ∨ pc / 64 = 8 ∨ pc / 64 = 9 ∨ pc / 64 = 10 ∨ pc / 64 = 11 ∨ pc / 64 = 12 ∨ pc / 64 = 13 ∨ pc / 64 = 14 ∨ pc / 64 = 15 ∨ pc / 64 = 16 ∨ pc / 64 = 17 ∨ pc / 64 = 18 ∨ pc / 64 = 19 ∨ pc / 64 = 20 ∨ pc / 64 = 21 ∨ pc / 64 = 22 ∨ pc / 64 = 23 ∨ pc / 64 = 24 ∨ pc / 64 = 25 ∨ pc / 64 = 26 ∨ pc / 64 = 27 ∨ pc / 64 = 28 ∨ pc / 64 = 29 ∨ pc / 64 = 30 by omega) with h0 | h1 | h2 | h3 | h4 | h5 | h6 | h7 | h8 | h9 | h10 | h11 | h12 | h13 | h14 | h15 | h16 | h17 | h18 | h19 | h20 | h21 | h22 | h23 | h24 | h25 | h26 | h27 | h28 | h29 | h30
  · have := List.all_eq_true.mp sx_ml0 (pc % 64) (List.mem_range.mpr (Nat.mod_lt _ (by decide)))
    rw [show 0 + pc % 64 = pc by omega] at this
    exact this
  · have := List.all_eq_true.mp sx_ml1 (pc % 64) (List.mem_range.mpr (Nat.mod_lt _ (by decide)))
    rw [show 64 + pc % 64 = pc by omega] at this
    exact this
  · have := List.all_eq_true.mp sx_ml2 (pc % 64) (List.mem_range.mpr (Nat.mod_lt _ (by decide)))
    rw [show 128 + pc % 64 = pc by omega] at this
    exact this
  · have := List.all_eq_true.mp sx_ml3 (pc % 64) (List.mem_range.mpr (Nat.mod_lt _ (by decide)))
    rw [show 192 + pc % 64 = pc by omega] at this
    exact this
  · have := List.all_eq_true.mp sx_ml4 (pc % 64) (List.mem_range.mpr (Nat.mod_lt _ (by decide)))
    rw [show 256 + pc % 64 = pc by omega] at this
    exact this
  · have := List.all_eq_true.mp sx_ml5 (pc % 64) (List.mem_range.mpr (Nat.mod_lt _ (by decide)))
    rw [show 320 + pc % 64 = pc by omega] at this
    exact this
  · have := List.all_eq_true.mp sx_ml6 (pc % 64) (List.mem_range.mpr (Nat.mod_lt _ (by decide)))
    rw [show 384 + pc % 64 = pc by omega] at this
    exact this
  · have := List.all_eq_true.mp sx_ml7 (pc % 64) (List.mem_range.mpr (Nat.mod_lt _ (by decide)))
    rw [show 448 + pc % 64 = pc by omega] at this
    exact this
  · have := List.all_eq_true.mp sx_ml8 (pc % 64) (List.mem_range.mpr (Nat.mod_lt _ (by decide)))
    rw [show 512 + pc % 64 = pc by omega] at this
    exact this
  · have := List.all_eq_true.mp sx_ml9 (pc % 64) (List.mem_range.mpr (Nat.mod_lt _ (by decide)))
    rw [show 576 + pc % 64 = pc by omega] at this
    exact this
  · have := List.all_eq_true.mp sx_ml10 (pc % 64) (List.mem_range.mpr (Nat.mod_lt _ (by decide)))
    rw [show 640 + pc % 64 = pc by omega] at this
    exact this
  · have := List.all_eq_true.mp sx_ml11 (pc % 64) (List.mem_range.mpr (Nat.mod_lt _ (by decide)))
    rw [show 704 + pc % 64 = pc by omega] at this
    exact this
  · have := List.all_eq_true.mp sx_ml12 (pc % 64) (List.mem_range.mpr (Nat.mod_lt _ (by decide)))
    rw [show 768 + pc % 64 = pc by omega] at this
    exact this
  · have := List.all_eq_true.mp sx_ml13 (pc % 64) (List.mem_range.mpr (Nat.mod_lt _ (by decide)))
    rw [show 832 + pc % 64 = pc by omega] at this
    exact this
  · have := List.all_eq_true.mp sx_ml14 (pc % 64) (List.mem_range.mpr (Nat.mod_lt _ (by decide)))
    rw [show 896 + pc % 64 = pc by omega] at this
    exact this
  · have := List.all_eq_true.mp sx_ml15 (pc % 64) (List.mem_range.mpr (Nat.mod_lt _ (by decide)))
    rw [show 960 + pc % 64 = pc by omega] at this
    exact this
  · have := List.all_eq_true.mp sx_ml16 (pc % 64) (List.mem_range.mpr (Nat.mod_lt _ (by decide)))
    rw [show 1024 + pc % 64 = pc by omega] at this
    exact this
  · have := List.all_eq_true.mp sx_ml17 (pc % 64) (List.mem_range.mpr (Nat.mod_lt _ (by decide)))
    rw [show 1088 + pc % 64 = pc by omega] at this
    exact this
  · have := List.all_eq_true.mp sx_ml18 (pc % 64) (List.mem_range.mpr (Nat.mod_lt _ (by decide)))
    rw [show 1152 + pc % 64 = pc by omega] at this
    exact this
  · have := List.all_eq_true.mp sx_ml19 (pc % 64) (List.mem_range.mpr (Nat.mod_lt _ (by decide)))
    rw [show 1216 + pc % 64 = pc by omega] at this
    exact this
  · have := List.all_eq_true.mp sx_ml20 (pc % 64) (List.mem_range.mpr (Nat.mod_lt _ (by decide)))
    rw [show 1280 + pc % 64 = pc by omega] at this
    exact this
  · have := List.all_eq_true.mp sx_ml21 (pc % 64) (List.mem_range.mpr (Nat.mod_lt _ (by decide)))
    rw [show 1344 + pc % 64 = pc by omega] at this
    exact this
  · have := List.all_eq_true.mp sx_ml22 (pc % 64) (List.mem_range.mpr (Nat.mod_lt _ (by decide)))
    rw [show 1408 + pc % 64 = pc by omega] at this
    exact this
  · have := List.all_eq_true.mp sx_ml23 (pc % 64) (List.mem_range.mpr (Nat.mod_lt _ (by decide)))
    rw [show 1472 + pc % 64 = pc by omega] at this
    exact this
  · have := List.all_eq_true.mp sx_ml24 (pc % 64) (List.mem_range.mpr (Nat.mod_lt _ (by decide)))
    rw [show 1536 + pc % 64 = pc by omega] at this
    exact this
  · have := List.all_eq_true.mp sx_ml25 (pc % 64) (List.mem_range.mpr (Nat.mod_lt _ (by decide)))
    rw [show 1600 + pc % 64 = pc by omega] at this
    exact this
  · have := List.all_eq_true.mp sx_ml26 (pc % 64) (List.mem_range.mpr (Nat.mod_lt _ (by decide)))
    rw [show 1664 + pc % 64 = pc by omega] at this
    exact this
  · have := List.all_eq_true.mp sx_ml27 (pc % 64) (List.mem_range.mpr (Nat.mod_lt _ (by decide)))
    rw [show 1728 + pc % 64 = pc by omega] at this
    exact this
  · have := List.all_eq_true.mp sx_ml28 (pc % 64) (List.mem_range.mpr (Nat.mod_lt _ (by decide)))
    rw [show 1792 + pc % 64 = pc by omega] at this
    exact this
  · have := List.all_eq_true.mp sx_ml29 (pc % 64) (List.mem_range.mpr (Nat.mod_lt _ (by decide)))
    rw [show 1856 + pc % 64 = pc by omega] at this
    exact this
  · have := List.all_eq_true.mp sx_ml30 (pc % 64) (List.mem_range.mpr (Nat.mod_lt _ (by decide)))
    rw [show 1920 + pc % 64 = pc by omega] at this
    exact this
theorem sx_c0_lt : decide (sx_c0 < 2 ^ (80 * 1984)) = true := by decide +kernel
theorem sx_mt0 : (sx_mt 0).1 = sx_c0 := rfl
theorem sx_mw0 : sx_mw (x, code, maxLocals, ret, []) (sx_mt 0).1 1984 = true := by
  rw [sx_mt0]
  unfold sx_mw
  rw [sx_c0_lt, Bool.true_and]
  exact List.all_eq_true.mpr (fun pc hpc => sx_m0_all pc (List.mem_range.mp hpc))
theorem sx_mc00 : sx_mC 0 = true := by decide +kernel
theorem sx_mc01 : (List.range 31).all (fun i => sx_mC (i + 1)) = true := sf_up31 (by decide +kernel)
theorem sx_ms0_eq : sx_ms[0]? = some (x, code, maxLocals, ret, []) := rfl
theorem sx_mc_all (mi : Nat) (h : mi < 416) : sx_mC mi = true := by
  rcases (show mi / 32 = 0 ∨ mi / 32 = 1 ∨ mi / 32 = 2 ∨ mi / 32 = 3 ∨ mi / 32 = 4 ∨ mi / 32 = 5 ∨ mi / 32 = 6 ∨ mi / 32 = 7 ∨ mi / 32 = 8 ∨ mi / 32 = 9 ∨ mi / 32 = 10 ∨ mi / 32 = 11 ∨ mi / 32 = 12 by omega) with h0 | h1 | h2 | h3 | h4 | h5 | h6 | h7 | h8 | h9 | h10 | h11 | h12
  · rcases Nat.eq_zero_or_pos mi with h1 | h1
    · rw [h1]; exact sx_mc00
    · have := List.all_eq_true.mp sx_mc01 (mi - 1) (List.mem_range.mpr (by omega))
      rw [show mi - 1 + 1 = mi by omega] at this
      exact this
  · have := List.all_eq_true.mp sx_mc1 (mi % 32) (List.mem_range.mpr (Nat.mod_lt _ (by decide)))
    rw [show 32 * 1 + mi % 32 = mi by omega] at this
    exact this
  · have := List.all_eq_true.mp sx_mc2 (mi % 32) (List.mem_range.mpr (Nat.mod_lt _ (by decide)))
    rw [show 32 * 2 + mi % 32 = mi by omega] at this
    exact this
  · have := List.all_eq_true.mp sx_mc3 (mi % 32) (List.mem_range.mpr (Nat.mod_lt _ (by decide)))
    rw [show 32 * 3 + mi % 32 = mi by omega] at this
    exact this
  · have := List.all_eq_true.mp sx_mc4 (mi % 32) (List.mem_range.mpr (Nat.mod_lt _ (by decide)))
    rw [show 32 * 4 + mi % 32 = mi by omega] at this
    exact this
  · have := List.all_eq_true.mp sx_mc5 (mi % 32) (List.mem_range.mpr (Nat.mod_lt _ (by decide)))
    rw [show 32 * 5 + mi % 32 = mi by omega] at this
    exact this
  · have := List.all_eq_true.mp sx_mc6 (mi % 32) (List.mem_range.mpr (Nat.mod_lt _ (by decide)))
    rw [show 32 * 6 + mi % 32 = mi by omega] at this
    exact this
  · have := List.all_eq_true.mp sx_mc7 (mi % 32) (List.mem_range.mpr (Nat.mod_lt _ (by decide)))
    rw [show 32 * 7 + mi % 32 = mi by omega] at this
    exact this
  · have := List.all_eq_true.mp sx_mc8 (mi % 32) (List.mem_range.mpr (Nat.mod_lt _ (by decide)))
    rw [show 32 * 8 + mi % 32 = mi by omega] at this
    exact this
  · have := List.all_eq_true.mp sx_mc9 (mi % 32) (List.mem_range.mpr (Nat.mod_lt _ (by decide)))
    rw [show 32 * 9 + mi % 32 = mi by omega] at this
    exact this
  · have := List.all_eq_true.mp sx_mc10 (mi % 32) (List.mem_range.mpr (Nat.mod_lt _ (by decide)))
    rw [show 32 * 10 + mi % 32 = mi by omega] at this
    exact this
  · have := List.all_eq_true.mp sx_mc11 (mi % 32) (List.mem_range.mpr (Nat.mod_lt _ (by decide)))
    rw [show 32 * 11 + mi % 32 = mi by omega] at this
    exact this
  · have := List.all_eq_true.mp sx_mc12 (mi % 32) (List.mem_range.mpr (Nat.mod_lt _ (by decide)))
    rw [show 32 * 12 + mi % 32 = mi by omega] at this
    exact this
theorem sx_MO_ok : sx_MO := by
  intro mi q hq h0
  have hlt : mi < 416 := by
    have := (List.getElem?_eq_some_iff.mp hq).1
    rw [sx_ms_len] at this
    omega
  have h := sx_mc_all mi hlt
  unfold sx_mC at h
  rw [hq] at h
  dsimp only at h
  rw [if_neg (by omega)] at h
  simp only [Bool.and_eq_true, decide_eq_true_eq] at h
  obtain ⟨h1, h2, h3, h4, h5, h6⟩ := h
  have h1 : ∃ len, sx_mw q (sx_mt mi).1 len = true := by
    rcases Bool.or_eq_true _ _ ▸ h1 with h1 | h1
    · have h1 : mi = 0 := of_decide_eq_true h1
      subst h1
      cases sx_ms0_eq.symm.trans hq
      exact ⟨_, sx_mw0⟩
    · exact ⟨_, h1⟩
  refine ⟨h1, h2, h3, h4, h5, fun hne => ?_⟩
  rw [Bool.or_eq_true, decide_eq_true_eq, Bool.and_eq_true] at h6
  obtain ⟨h6, h7⟩ := h6.resolve_left hne
  obtain ⟨q', w, w1, w2, w3, w4⟩ := sx_pq_ok sx_z1212 mi (List.contains_iff_mem.mp h7)
  cases hq.symm.trans w1
  have hw : w ∈ sx_wl := List.mem_filter.mpr ⟨w2, w4⟩
  rcases w3 with ⟨e1, rfl⟩ | ⟨e1, rfl⟩
  · exact ⟨h6, fun _ => hw, fun h => absurd e1 h⟩
  · exact ⟨h6, fun h => absurd h e1, fun _ => hw⟩
