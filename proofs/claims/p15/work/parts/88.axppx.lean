/-! px: the cells that the law makes are within their stretches; the law from its first instruction on -/
def sx_z1p : sx_Q sx_C := ((0, 0), (0, 0), (0, 0), (0, 0))
def sx_h0p : sx_H := (((sx_z1p, sx_z1p, sx_z1p, sx_z1p), (sx_z1p, sx_z1p, sx_z1p, sx_z1p), (sx_z1p, sx_z1p, sx_z1p, sx_z1p), (sx_z1p, sx_z1p, sx_z1p, sx_z1p)), ((sx_z1p, sx_z1p, sx_z1p, sx_z1p), (sx_z1p, sx_z1p, sx_z1p, sx_z1p), (sx_z1p, sx_z1p, sx_z1p, sx_z1p), (sx_z1p, sx_z1p, sx_z1p, sx_z1p)), ((sx_z1p, sx_z1p, sx_z1p, sx_z1p), (sx_z1p, sx_z1p, sx_z1p, sx_z1p), (sx_z1p, sx_z1p, sx_z1p, sx_z1p), (sx_z1p, sx_z1p, sx_z1p, sx_z1p)), ((sx_z1p, sx_z1p, sx_z1p, sx_z1p), (sx_z1p, sx_z1p, sx_z1p, sx_z1p), (sx_z1p, sx_z1p, sx_z1p, sx_z1p), (sx_z1p, sx_z1p, sx_z1p, sx_z1p)))
def px_rk (a : Nat) : Bool := Nat.ble 2 (a % 8) && (Nat.ble (a % 8) 6 && (Nat.blt a 4722366482869645213696 && (!Nat.beq (a % 8) 2 || Nat.blt (a / 8) 160)))
def px_in (v lo hi : Nat) : Bool := Nat.beq (v % 8) 0 && (Nat.blt v 34359738368 && (Nat.ble lo (sx_bs (v / 8)) && Nat.ble (sx_bs (v / 8)) hi))
def px_sv (s : ax_S) (v : Nat) : Bool := (Nat.beq s.2.1 0 && px_in v s.2.2.1 s.2.2.2.1) || ((Nat.beq s.2.1 1 && (Nat.beq v s.2.2.1 && px_rk s.2.2.1)) || ((Nat.beq s.2.1 2 && ((Nat.beq v s.2.2.1 || Nat.beq v s.2.2.2.1) && (px_rk s.2.2.1 && px_rk s.2.2.2.1))) || ((Nat.beq s.2.1 3 && Nat.beq (v % 8) 0) || (Nat.beq s.2.1 4 && (px_in v s.2.2.1 s.2.2.2.1 || px_in v s.2.2.2.2.1 s.2.2.2.2.2)))))
theorem px_rk_ok {a : Nat} (h : px_rk a = true) : ax_Rk a := by
  unfold px_rk at h
  simp only [Bool.and_eq_true, Bool.or_eq_true, Bool.not_eq_true'] at h
  obtain ⟨h1, h2, h3, h4⟩ := h
  refine ⟨sx_ble h1, sx_ble h2, sx_blt h3, fun q => ?_⟩
  rcases h4 with h4 | h4
  · exact absurd q (sx_beq_f h4)
  · exact sx_blt h4
theorem px_in_ok {v lo hi : Nat} (h : px_in v lo hi = true) : ∃ P, v = sx_i P ∧ lo ≤ sx_b P ∧ sx_b P ≤ hi := by
  unfold px_in at h
  simp only [Bool.and_eq_true] at h
  obtain ⟨h1, h2, h3, h4⟩ := h
  have h1 : v % 8 = 0 := sx_beq h1
  have h2 : v < 34359738368 := sx_blt h2
  refine ⟨Int32.ofNat (v / 8), ?_, ?_, ?_⟩
  · rw [ax_i_eq, ax_on_tn (by omega)]; omega
  · rw [sx_b_ofNat]; exact sx_ble h3
  · rw [sx_b_ofNat]; exact sx_ble h4
theorem px_sv_ok {s : ax_S} {v : Nat} (h : px_sv s v = true) : ax_Sv s v := by
  unfold px_sv at h
  simp only [Bool.or_eq_true, Bool.and_eq_true] at h
  rcases h with ⟨h1, h2⟩ | ⟨h1, h2, h3⟩ | ⟨h1, h2, h3, h4⟩ | ⟨h1, h2⟩ | ⟨h1, h2⟩
  · exact Or.inl ⟨sx_beq h1, px_in_ok h2⟩
  · exact Or.inr (Or.inl ⟨sx_beq h1, sx_beq h2, px_rk_ok h3⟩)
  · exact Or.inr (Or.inr (Or.inl ⟨sx_beq h1, h2.elim (fun q => Or.inl (sx_beq q)) (fun q => Or.inr (sx_beq q)), px_rk_ok h3, px_rk_ok h4⟩))
  · exact Or.inr (Or.inr (Or.inr (Or.inl ⟨sx_beq h1, sx_beq h2⟩)))
  · refine Or.inr (Or.inr (Or.inr (Or.inr ⟨sx_beq h1, ?_⟩)))
    rcases h2 with h2 | h2
    · obtain ⟨P, e, b⟩ := px_in_ok h2
      exact ⟨P, e, Or.inl b⟩
    · obtain ⟨P, e, b⟩ := px_in_ok h2
      exact ⟨P, e, Or.inr b⟩
noncomputable def px_cell (hd ct : Nat) (c : ax_C0) : Bool := Nat.beq hd c.1 && sx_if (Nat.beq ct 0) (c.2.2.all (fun s => px_sv s 0) && (Nat.blt 0 c.2.1 && c.2.2.any (fun s => Nat.ble c.2.1 s.1))) ((List.range (hd / 256)).all (fun j => Option.rec false (fun s => px_sv s (sx_get ct j)) (ax_sg c.2.2 (j % c.2.1) (j % c.2.1))))
theorem ax_sg_ex {i : Nat} : ∀ {l : List ax_S}, (∃ s ∈ l, i < s.1) → ∃ s, ax_sg l i i = some s
  | [], ⟨s, h, _⟩ => by cases h
  | t :: l, ⟨s, h, hi⟩ => by
    rw [ax_sg_cons]
    by_cases c : i < t.1
    · exact ⟨t, by rw [sx_blt_t c, sx_if_t, sx_if_t]⟩
    · rcases List.mem_cons.mp h with rfl | h
      · exact absurd hi c
      · obtain ⟨s', h'⟩ := ax_sg_ex ⟨s, h, hi⟩
        exact ⟨s', by rw [sx_blt_e c, sx_if_f]; exact h'⟩
theorem px_cell_ok {hd ct c : Nat} (h : px_cell hd ct (ax_cl c) = true) : hd = (ax_cl c).1 ∧ ∀ j, j < (ax_cl c).1 / 256 → ax_Pk c j (sx_get ct j) := by
  unfold px_cell at h
  rw [Bool.and_eq_true] at h
  obtain ⟨h1, h2⟩ := h
  have h1 := sx_beq h1
  refine ⟨h1, fun j hj => ?_⟩
  cases z : Nat.beq ct 0 with
  | true =>
    rw [z, sx_if_t] at h2
    have z := sx_beq z
    subst z
    simp only [Bool.and_eq_true] at h2
    obtain ⟨a1, a2, a3⟩ := h2
    have a2 : 0 < (ax_cl c).2.1 := sx_blt a2
    obtain ⟨s, s1, s2⟩ := List.any_eq_true.mp a3
    have s2 := sx_ble s2
    have lt : j % (ax_cl c).2.1 < (ax_cl c).2.1 := Nat.mod_lt _ a2
    obtain ⟨s', k⟩ := ax_sg_ex ⟨s, s1, Nat.lt_of_lt_of_le lt s2⟩
    have e0 : sx_get 0 j = 0 := by rw [sx_get_eq, Nat.zero_shiftRight]
    rw [e0]
    exact ⟨s', k, px_sv_ok (List.all_eq_true.mp a1 s' (ax_sg_mem k))⟩
  | false =>
    rw [z, sx_if_f] at h2
    have h3 := List.all_eq_true.mp h2 j (List.mem_range.mpr (by rw [h1]; exact hj))
    cases k : ax_sg (ax_cl c).2.2 (j % (ax_cl c).2.1) (j % (ax_cl c).2.1) with
    | none => rw [k] at h3; cases h3
    | some s =>
      rw [k] at h3
      exact ⟨s, k, px_sv_ok h3⟩
noncomputable def px_end (o : sx_O) : Bool := Nat.beq o.1 99 && (Nat.beq o.2.2.2.1 160 && (Nat.ble o.2.2.2.2.2.1 500000 && (Nat.ble o.2.2.2.2.2.2 7000000 && (Nat.beq (sx_rdK o.2.2.1 1 (fun _ ct => sx_get ct 1)) (sx_rdK o.2.2.1 148 (fun _ ct => sx_get ct 8)) && (List.range 160).all (fun c => sx_rdK o.2.2.1 c (fun hd ct => px_cell hd ct (ax_cl c)))))))
noncomputable def px_chk (r : sx_R) : Bool := Option.rec false (fun os => List.rec false (fun o t _ => List.rec (px_end o) (fun _ _ _ => false) t) os) r
set_option maxRecDepth 1000000 in
theorem px_q : px_chk (px_run 100000 40 0 sx_c0 [] false 0 [5, 7, 7, 7, 7, 7, 7] [] sx_h0p 0 [] 0 9198) = true := by decide +kernel
theorem px_law {N : Nat} {sy : sx_Y} (hS : ax_Sc N sy) (hN : N ≤ 3072) (hC : ax_Csl N sy ax_cases) : ∃ co, (∃ f0, ∀ f, f0 ≤ f → sx_run N f 40 0 sx_c0 [] false 0 [5, 7, 7, 7, 7, 7, 7] [] sx_h0p 0 sy 0 9198 = some [co]) ∧ ax_Pl co := by
  have hq := px_q
  unfold px_chk at hq
  generalize hr : px_run 100000 40 0 sx_c0 [] false 0 [5, 7, 7, 7, 7, 7, 7] [] sx_h0p 0 [] 0 9198 = res at hq
  match res, hr, hq with
  | none, _, hq => cases hq
  | some [], _, hq => cases hq
  | some (_ :: _ :: _), _, hq => cases hq
  | some [o1], hr, hq =>
    have hq : px_end o1 = true := hq
    unfold px_end at hq
    simp only [Bool.and_eq_true, sx_rdK_eq] at hq
    obtain ⟨a1, a2, a3, a4, a5, a6⟩ := hq
    have a1 := sx_beq a1
    have a2 := sx_beq a2
    have a3 := sx_ble a3
    have a4 := sx_ble a4
    have a5 := sx_beq a5
    have cell : ∀ c, c < 160 → (sx_rd o1.2.2.1 c).1 = (ax_cl c).1 ∧ ∀ j, j < (ax_cl c).1 / 256 → ax_Pk c j (sx_get (sx_rd o1.2.2.1 c).2 j) := fun c hc => px_cell_ok (List.all_eq_true.mp a6 c (List.mem_range.mpr hc))
    have hs : ax_Hs o1.2.2.1 := ⟨fun c hc => (cell c hc).1, fun c j hc hj => (cell c hc).2 j hj⟩
    obtain ⟨co, ev, hp⟩ := ax_rounds (c0 := o1.2.2.2.2.2.1) (s0 := o1.2.2.2.2.2.2) hS hN a3 a4 hC (N + 1) 0 (by omega) px_L o1.2.2.1 o1.2.2.2.2.2.1 o1.2.2.2.2.2.2 ⟨Nat.zero_le _, hs, ⟨7, 7, rfl, by decide, by decide⟩, a5⟩ (by omega) (by omega)
    refine ⟨co, px_run_ok 100000 40 0 sx_c0 0 [5, 7, 7, 7, 7, 7, 7] [] sx_h0p 0 0 9198 o1 hr co (Or.inl ⟨a1, ?_⟩), hp⟩
    rw [a2]
    exact ev
