/-! sx: runs of the law -/
def sx_h0 : sx_H := (((sx_z1, sx_z1, sx_z1, sx_z1), (sx_z1, sx_z1, sx_z1, sx_z1), (sx_z1, sx_z1, sx_z1, sx_z1), (sx_z1, sx_z1, sx_z1, sx_z1)), ((sx_z1, sx_z1, sx_z1, sx_z1), (sx_z1, sx_z1, sx_z1, sx_z1), (sx_z1, sx_z1, sx_z1, sx_z1), (sx_z1, sx_z1, sx_z1, sx_z1)), ((sx_z1, sx_z1, sx_z1, sx_z1), (sx_z1, sx_z1, sx_z1, sx_z1), (sx_z1, sx_z1, sx_z1, sx_z1), (sx_z1, sx_z1, sx_z1, sx_z1)), ((sx_z1, sx_z1, sx_z1, sx_z1), (sx_z1, sx_z1, sx_z1, sx_z1), (sx_z1, sx_z1, sx_z1, sx_z1), (sx_z1, sx_z1, sx_z1, sx_z1)))
noncomputable def sx_ans (r : sx_R) : Bool := Option.rec false (fun o => List.rec true (fun q _ ih => sx_and (sx_and (Nat.beq q.1 1) (sx_and (Nat.beq q.2.1 8) (sx_and (Nat.ble q.2.2.2.2.2.1 600002) (Nat.ble q.2.2.2.2.2.2 7302232)))) ih) o) r
def sx_good (q : sx_O) : Prop := q.1 = 1 ∧ q.2.1 = 8 ∧ q.2.2.2.2.2.1 ≤ 600002 ∧ q.2.2.2.2.2.2 ≤ 7302232
theorem sx_ans_ok {r : sx_R} (h : sx_ans r = true) : ∃ outs, r = some outs ∧ ∀ o ∈ outs, sx_good o := by
  cases r with
  | none => cases h
  | some outs =>
    refine ⟨outs, rfl, ?_⟩
    induction outs with
    | nil => intro o ho; cases ho
    | cons q t ih =>
      have h : sx_and (sx_and (Nat.beq q.1 1) (sx_and (Nat.beq q.2.1 8) (sx_and (Nat.ble q.2.2.2.2.2.1 600002) (Nat.ble q.2.2.2.2.2.2 7302232)))) (sx_ans (some t)) = true := h
      obtain ⟨h1, h2⟩ := sx_and_ok h
      obtain ⟨a1, h1⟩ := sx_and_ok h1
      obtain ⟨a2, h1⟩ := sx_and_ok h1
      obtain ⟨a3, a4⟩ := sx_and_ok h1
      intro o ho
      rcases List.mem_cons.mp ho with rfl | ho
      · exact ⟨sx_beq a1, sx_beq a2, sx_ble a3, sx_ble a4⟩
      · exact ih h2 o ho
def sx_full (k : Nat) : sx_Y := List.replicate k (0, 4294967295, 0, 0)
def sx_y6 (c : Nat) : sx_Y := [(0, 4294967295, 0, Nat.succ c), (0, 4294967295, 0, 0), (0, 4294967295, 0, 0), (0, 4294967295, 0, 0), (0, 4294967295, 0, 0), (0, 4294967295, 0, 0)]
noncomputable def sx_law (N : Nat) (sy : sx_Y) : Bool := sx_ans (sx_run N 1000000 40 0 sx_c0 [] false 0 [5, 7, 7, 7, 7, 7, 7] [] sx_h0 0 sy 0 0)
set_option maxRecDepth 1000000
theorem sx_n0 : sx_law 0 [] = true := by decide +kernel
theorem sx_n1 : sx_law 1 [(0, 4294967295, 0, 0)] = true := by decide +kernel
theorem sx_n2 : sx_law 2 [(0, 4294967295, 0, 0), (0, 4294967295, 0, 0)] = true := by decide +kernel
theorem sx_n3 : sx_law 3 [(0, 4294967295, 0, 0), (0, 4294967295, 0, 0), (0, 4294967295, 0, 0)] = true := by decide +kernel
theorem sx_n4 : sx_law 4 [(0, 4294967295, 0, 0), (0, 4294967295, 0, 0), (0, 4294967295, 0, 0), (0, 4294967295, 0, 0)] = true := by decide +kernel
theorem sx_n5 : sx_law 5 [(0, 4294967295, 0, 0), (0, 4294967295, 0, 0), (0, 4294967295, 0, 0), (0, 4294967295, 0, 0), (0, 4294967295, 0, 0)] = true := by decide +kernel
