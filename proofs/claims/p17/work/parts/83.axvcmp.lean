/-! ax: comparisons, on -/
section AXCmp3
variable {ρ : List Nat} {Y : ax_Y} {n : Nat} {F : ax_F}
theorem ax_le_ok {x y c zx zy fuel : Nat} (hY : ax_Yk ρ Y n) (hF : ax_Fk ρ F) (hx : ax_J ρ x zx) (hy : ax_J ρ y zy) (h : ax_le F Y n x c fuel y = true) : zx + c ≤ zy := by
  have := ax_le_Z hY hF hx fuel y zy hy.Z h
  omega
theorem ax_app_ok {a b : ax_R} {outs : List ax_O} (h : ax_app a b = some outs) : ∃ o1 o2, a = some o1 ∧ b = some o2 ∧ outs = o1 ++ o2 := by
  cases a with
  | none => cases h
  | some x =>
    cases b with
    | none => cases h
    | some y => cases h; exact ⟨x, y, rfl, rfl, rfl⟩
theorem ax_af_ok {x y c zx zy : Nat} {K : ax_F → ax_R} {outs : List ax_O} (h : ax_af F x y c K = some outs) (hY : ax_Yk ρ Y n) (hF : ax_Fk ρ F) (hx : ax_J ρ x zx) (hy : ax_J ρ y zy) (hle : zx + c ≤ zy) : ∃ F', K F' = some outs ∧ ax_Fk ρ F' := by
  unfold ax_af at h
  cases ht : sx_and (Nat.beq (sx_tg x) 1) (Nat.beq (sx_tg y) 1) with
  | false => rw [ht, sx_if_f] at h; exact ⟨F, h, hF⟩
  | true =>
    rw [ht, sx_if_t] at h
    simp only [sx_fo_eq] at h
    refine ⟨_, h, fun f hf => ?_⟩
    rcases List.mem_cons.mp hf with rfl | hf
    · obtain ⟨t1, t2⟩ := sx_and_ok ht
      obtain ⟨rx, x1, x2⟩ := hx.t1 (sx_beq t1)
      obtain ⟨ry, y1, y2⟩ := hy.t1 (sx_beq t2)
      obtain ⟨e, -, hE⟩ := hY.at x1
      have := hE.2.1
      refine ⟨rx, ry, x1, y1, ?_⟩
      show rx + (ax_o x + c + 34359738368 - ax_o y) ≤ ry + 34359738368
      omega
    · exact hF f hf
theorem ax_lt_ok {x y zx zy : Nat} {K : Bool → ax_F → ax_Y → ax_R} {outs : List ax_O} (h : ax_lt x y F Y n K = some outs) (hY : ax_Yk ρ Y n) (hF : ax_Fk ρ F) (hx : ax_J ρ x zx) (hy : ax_J ρ y zy) : ∃ F' Y' outs', K (decide (zx < zy)) F' Y' = some outs' ∧ (∀ o ∈ outs', o ∈ outs) ∧ ax_Yk ρ Y' n ∧ ax_Fk ρ F' := by
  unfold ax_lt at h
  cases h1 : ax_le F Y n x 1 40 y with
  | true =>
    rw [h1, sx_if_t] at h
    have := ax_le_ok hY hF hx hy h1
    exact ⟨F, Y, outs, by rw [decide_eq_true (show zx < zy by omega)]; exact h, fun _ h => h, hY, hF⟩
  | false =>
    rw [h1, sx_if_f] at h
    cases h2 : ax_le F Y n y 0 40 x with
    | true =>
      rw [h2, sx_if_t] at h
      have := ax_le_ok hY hF hy hx h2
      exact ⟨F, Y, outs, by rw [decide_eq_false (show ¬ zx < zy by omega)]; exact h, fun _ h => h, hY, hF⟩
    | false =>
      rw [h2, sx_if_f] at h
      obtain ⟨xl, xh, g, g1, g2⟩ := ax_rg_ok (df := none) (K := fun xl xh => ax_rg none Y n y (fun yl yh => ax_app (sx_if (Nat.beq yh 0) (some []) (ax_rv Y n x xl (Nat.pred yh) (fun Y => ax_rv Y n y (Nat.succ xl) yh (fun Y => ax_af F x y 1 (fun F => K true F Y))))) (ax_rv Y n x yl xh (fun Y => ax_rv Y n y yl xh (fun Y => ax_af F y x 0 (fun F => K false F Y)))))) hY hx
      rw [g] at h
      obtain ⟨yl, yh, g, g3, g4⟩ := ax_rg_ok (df := none) (K := fun yl yh => ax_app (sx_if (Nat.beq yh 0) (some []) (ax_rv Y n x xl (Nat.pred yh) (fun Y => ax_rv Y n y (Nat.succ xl) yh (fun Y => ax_af F x y 1 (fun F => K true F Y))))) (ax_rv Y n x yl xh (fun Y => ax_rv Y n y yl xh (fun Y => ax_af F y x 0 (fun F => K false F Y))))) hY hy
      rw [g] at h
      obtain ⟨o1, o2, a1, a2, rfl⟩ := ax_app_ok h
      by_cases hlt : zx < zy
      · rw [sx_beq_e (show ¬ yh = 0 by omega), sx_if_f] at a1
        obtain ⟨Y1, a1, hY1⟩ := ax_rv_ok a1 hY hx g1 (by show zx ≤ yh - 1; omega)
        obtain ⟨Y2, a1, hY2⟩ := ax_rv_ok a1 hY1 hy (by show xl + 1 ≤ zy; omega) g4
        obtain ⟨F', a1, hF'⟩ := ax_af_ok a1 hY2 hF hx hy (by omega)
        exact ⟨F', Y2, o1, by rw [decide_eq_true hlt]; exact a1, fun o ho => List.mem_append_left _ ho, hY2, hF'⟩
      · obtain ⟨Y1, a2, hY1⟩ := ax_rv_ok a2 hY hx (by omega) g2
        obtain ⟨Y2, a2, hY2⟩ := ax_rv_ok a2 hY1 hy g3 (by omega)
        obtain ⟨F', a2, hF'⟩ := ax_af_ok a2 hY2 hF hy hx (by omega)
        exact ⟨F', Y2, o2, by rw [decide_eq_false hlt]; exact a2, fun o ho => List.mem_append_right _ ho, hY2, hF'⟩
end AXCmp3
