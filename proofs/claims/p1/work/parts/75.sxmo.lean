/-! sx: all methods -/
theorem sx_ms_len : sx_ms.length = 412 := by decide +kernel
theorem sx_mc_all (mi : Nat) (h : mi < 416) : sx_mC mi = true := by
  rcases (show mi / 32 = 0 ∨ mi / 32 = 1 ∨ mi / 32 = 2 ∨ mi / 32 = 3 ∨ mi / 32 = 4 ∨ mi / 32 = 5 ∨ mi / 32 = 6 ∨ mi / 32 = 7 ∨ mi / 32 = 8 ∨ mi / 32 = 9 ∨ mi / 32 = 10 ∨ mi / 32 = 11 ∨ mi / 32 = 12 by omega) with h0 | h1 | h2 | h3 | h4 | h5 | h6 | h7 | h8 | h9 | h10 | h11 | h12
  · rcases Nat.eq_zero_or_pos mi with h1 | h1
    · rw [h1]; exact sx_mc00
    · have := List.all_eq_true.mp sx_mc01 (mi - 1) (List.mem_range.mpr (by omega))
      rw [show mi - 1 + 1 = mi by omega] at this
      exact this
  · have := List.all_eq_true.mp sx_mc1 (mi % 32) (List.mem_range.mpr (Nat.mod_lt _ (by decide)))
    rw [show 32 * 1 + mi % 32 = mi by omega] at this
    exact this
  · have := List.all_eq_true.mp sx_mc2 (mi % 32) (List.mem_range.mpr (Nat.mod_lt _ (by decide)))
    rw [show 32 * 2 + mi % 32 = mi by omega] at this
    exact this
  · have := List.all_eq_true.mp sx_mc3 (mi % 32) (List.mem_range.mpr (Nat.mod_lt _ (by decide)))
    rw [show 32 * 3 + mi % 32 = mi by omega] at this
    exact this
  · have := List.all_eq_true.mp sx_mc4 (mi % 32) (List.mem_range.mpr (Nat.mod_lt _ (by decide)))
    rw [show 32 * 4 + mi % 32 = mi by omega] at this
    exact this
  · have := List.all_eq_true.mp sx_mc5 (mi % 32) (List.mem_range.mpr (Nat.mod_lt _ (by decide)))
    rw [show 32 * 5 + mi % 32 = mi by omega] at this
    exact this
  · have := List.all_eq_true.mp sx_mc6 (mi % 32) (List.mem_range.mpr (Nat.mod_lt _ (by decide)))
    rw [show 32 * 6 + mi % 32 = mi by omega] at this
    exact this
  · have := List.all_eq_true.mp sx_mc7 (mi % 32) (List.mem_range.mpr (Nat.mod_lt _ (by decide)))
    rw [show 32 * 7 + mi % 32 = mi by omega] at this
    exact this
  · have := List.all_eq_true.mp sx_mc8 (mi % 32) (List.mem_range.mpr (Nat.mod_lt _ (by decide)))
    rw [show 32 * 8 + mi % 32 = mi by omega] at this
    exact this
  · have := List.all_eq_true.mp sx_mc9 (mi % 32) (List.mem_range.mpr (Nat.mod_lt _ (by decide)))
    rw [show 32 * 9 + mi % 32 = mi by omega] at this
    exact this
  · have := List.all_eq_true.mp sx_mc10 (mi % 32) (List.mem_range.mpr (Nat.mod_lt _ (by decide)))
    rw [show 32 * 10 + mi % 32 = mi by omega] at this
    exact this
  · have := List.all_eq_true.mp sx_mc11 (mi % 32) (List.mem_range.mpr (Nat.mod_lt _ (by decide)))
    rw [show 32 * 11 + mi % 32 = mi by omega] at this
    exact this
  · have := List.all_eq_true.mp sx_mc12 (mi % 32) (List.mem_range.mpr (Nat.mod_lt _ (by decide)))
    rw [show 32 * 12 + mi % 32 = mi by omega] at this
    exact this
theorem sx_MO_ok : sx_MO := by
  intro mi q hq h0
  have hlt : mi < 416 := by
    have := (List.getElem?_eq_some_iff.mp hq).1
    rw [sx_ms_len] at this
    omega
  have h := sx_mc_all mi hlt
  unfold sx_mC at h
  rw [hq] at h
  dsimp only at h
  rw [if_neg (by omega)] at h
  simp only [Bool.and_eq_true, decide_eq_true_eq] at h
  obtain ⟨h1, h2, h3, h4, h5, h6⟩ := h
  refine ⟨⟨_, h1⟩, h2, h3, h4, h5, fun hne => ?_⟩
  rw [Bool.or_eq_true, decide_eq_true_eq, Bool.and_eq_true] at h6
  obtain ⟨h6, h7⟩ := h6.resolve_left hne
  obtain ⟨q', w, w1, w2, w3, w4⟩ := sx_pq_ok sx_z1212 mi (List.contains_iff_mem.mp h7)
  cases hq.symm.trans w1
  have hw : w ∈ sx_wl := List.mem_filter.mpr ⟨w2, w4⟩
  rcases w3 with ⟨e1, rfl⟩ | ⟨e1, rfl⟩
  · exact ⟨h6, fun _ => hw, fun h => absurd e1 h⟩
  · exact ⟨h6, fun h => absurd h e1, fun _ => hw⟩
