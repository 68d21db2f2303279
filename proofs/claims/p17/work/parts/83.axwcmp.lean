/-! ax: like or not; all comparisons -/
section AXCmp4
variable {ρ : List Nat} {Y : ax_Y} {n : Nat} {F : ax_F} {a z : Nat}
theorem ax_nm_h {K : Nat → ax_R} {o : ax_R} (h : ax_nm Y n a K = o) (hY : ax_Yk ρ Y n) (hI : ax_J ρ a z) : ∃ a', K a' = o ∧ ax_J ρ a' z := by
  obtain ⟨a', g, h1⟩ := ax_nm_ok (K := K) hY hI
  exact ⟨a', by rw [← g]; exact h, h1⟩
theorem ax_rg_h {K : Nat → Nat → ax_R} {d o : ax_R} (h : ax_rg d Y n a K = o) (hY : ax_Yk ρ Y n) (hI : ax_J ρ a z) : ∃ lo hi, K lo hi = o ∧ lo ≤ z ∧ z ≤ hi := by
  obtain ⟨lo, hi, g, h1⟩ := ax_rg_ok (df := d) (K := K) hY hI
  exact ⟨lo, hi, by rw [← g]; exact h, h1⟩
theorem ax_mx_le {a b r : Nat} (h1 : a ≤ r) (h2 : b ≤ r) : sx_mx a b ≤ r := by
  unfold sx_mx
  rw [sx_if_eq]
  split <;> assumption
theorem ax_mn_le {a b r : Nat} (h1 : r ≤ a) (h2 : r ≤ b) : r ≤ sx_mn a b := by
  unfold sx_mn
  rw [sx_if_eq]
  split <;> assumption
theorem ax_or {c : Bool} {d : Bool} (h : sx_if c true d = true) : c = true ∨ d = true := by
  cases c with
  | true => exact Or.inl rfl
  | false => exact Or.inr h
theorem ax_eq_ok {x y zx zy : Nat} {K : Bool → ax_F → ax_Y → ax_R} {outs : List ax_O} (h : ax_eq x y F Y n K = some outs) (hY : ax_Yk ρ Y n) (hF : ax_Fk ρ F) (hx : ax_J ρ x zx) (hy : ax_J ρ y zy) : ∃ F' Y' outs', K (decide (zx = zy)) F' Y' = some outs' ∧ (∀ o ∈ outs', o ∈ outs) ∧ ax_Yk ρ Y' n ∧ ax_Fk ρ F' := by
  unfold ax_eq at h
  obtain ⟨x, h, hx⟩ := ax_nm_h h hY hx
  obtain ⟨y, h, hy⟩ := ax_nm_h h hY hy
  cases hb : Nat.beq x y with
  | true =>
    rw [hb, sx_if_t] at h
    have e := sx_beq hb
    subst e
    exact ⟨F, Y, outs, by rw [decide_eq_true (hx.uniq hy)]; exact h, fun _ h => h, hY, hF⟩
  | false =>
    rw [hb, sx_if_f] at h
    obtain ⟨xl, xh, h, x1, x2⟩ := ax_rg_h h hY hx
    obtain ⟨yl, yh, h, y1, y2⟩ := ax_rg_h h hY hy
    have ne : zx ≠ zy → K false F Y = some outs → ∃ F' Y' outs', K (decide (zx = zy)) F' Y' = some outs' ∧ (∀ o ∈ outs', o ∈ outs) ∧ ax_Yk ρ Y' n ∧ ax_Fk ρ F' := fun hn h => ⟨F, Y, outs, by rw [decide_eq_false hn]; exact h, fun _ h => h, hY, hF⟩
    cases h1 : sx_if (Nat.blt xh yl) true (Nat.blt yh xl) with
    | true =>
      rw [h1, sx_if_t] at h
      refine ne ?_ h
      rcases ax_or h1 with q | q
      · have : xh < yl := sx_blt q
        omega
      · have : yh < xl := sx_blt q
        omega
    | false =>
      rw [h1, sx_if_f] at h
      cases h2 : sx_if (ax_le F Y n x 1 40 y) true (ax_le F Y n y 1 40 x) with
      | true =>
        rw [h2, sx_if_t] at h
        refine ne ?_ h
        rcases ax_or h2 with q | q
        · have := ax_le_ok hY hF hx hy q
          omega
        · have := ax_le_ok hY hF hy hx q
          omega
      | false =>
        rw [h2, sx_if_f] at h
        obtain ⟨o1, o2, a1, a2, rfl⟩ := ax_app_ok h
        by_cases he : zx = zy
        · obtain ⟨Y1, a1, hY1⟩ := ax_rv_ok a1 hY hx (ax_mx_le x1 (by omega)) (ax_mn_le x2 (by omega))
          obtain ⟨Y2, a1, hY2⟩ := ax_rv_ok a1 hY1 hy (ax_mx_le (by omega) y1) (ax_mn_le (by omega) y2)
          exact ⟨F, Y2, o1, by rw [decide_eq_true he]; exact a1, fun o ho => List.mem_append_left _ ho, hY2, hF⟩
        · rw [decide_eq_false he]
          have two : ∀ {u zu b ul uh : Nat}, ax_J ρ u zu → ul ≤ zu → zu ≤ uh → zu ≠ b → ax_app (sx_if (Nat.beq b 0) (some []) (ax_rv Y n u ul (Nat.pred b) (fun Y => K false F Y))) (ax_rv Y n u (Nat.succ b) uh (fun Y => K false F Y)) = some o2 → ∃ F' Y' outs', K false F' Y' = some outs' ∧ (∀ o ∈ outs', o ∈ o1 ++ o2) ∧ ax_Yk ρ Y' n ∧ ax_Fk ρ F' := by
            intro u zu b ul uh hu u1 u2 hne h
            obtain ⟨p1, p2, c1, c2, rfl⟩ := ax_app_ok h
            by_cases hl : zu < b
            · rw [sx_beq_e (show ¬ b = 0 by omega), sx_if_f] at c1
              obtain ⟨Y1, c1, hY1⟩ := ax_rv_ok c1 hY hu u1 (by show zu ≤ b - 1; omega)
              exact ⟨F, Y1, p1, c1, fun o ho => List.mem_append_right _ (List.mem_append_left _ ho), hY1, hF⟩
            · obtain ⟨Y1, c2, hY1⟩ := ax_rv_ok c2 hY hu (by show b + 1 ≤ zu; omega) u2
              exact ⟨F, Y1, p2, c2, fun o ho => List.mem_append_right _ (List.mem_append_right _ ho), hY1, hF⟩
          cases hq : Nat.beq yl yh with
          | true =>
            rw [hq, sx_if_t] at a2
            have e := sx_beq hq
            exact two hx x1 x2 (by omega) a2
          | false =>
            rw [hq, sx_if_f] at a2
            cases hp : Nat.beq xl xh with
            | true =>
              rw [hp, sx_if_t] at a2
              have e := sx_beq hp
              exact two hy y1 y2 (by omega) a2
            | false =>
              rw [hp, sx_if_f] at a2
              exact ⟨F, Y, o2, a2, fun o ho => List.mem_append_right _ ho, hY, hF⟩
/-- the comparison c of the ints themselves -/
def ax_cb (c x y : Nat) : Bool := if c = 0 then decide (x = y) else if c = 1 then !decide (x = y) else if c = 2 then decide (x < y) else if c = 3 then !decide (x < y) else if c = 4 then decide (y < x) else !decide (y < x)
theorem ax_cmp_ok {c x y zx zy : Nat} {K : Bool → ax_F → ax_Y → ax_R} {outs : List ax_O} (h : ax_cmp c x y F Y n K = some outs) (hY : ax_Yk ρ Y n) (hF : ax_Fk ρ F) (hx : ax_J ρ x zx) (hy : ax_J ρ y zy) : ∃ F' Y' outs', K (ax_cb c zx zy) F' Y' = some outs' ∧ (∀ o ∈ outs', o ∈ outs) ∧ ax_Yk ρ Y' n ∧ ax_Fk ρ F' := by
  unfold ax_cmp at h
  unfold ax_cb
  simp only [sx_if_eq, Nat.beq_eq] at h
  by_cases c0 : c = 0
  · rw [if_pos c0] at h ⊢; exact ax_eq_ok h hY hF hx hy
  · rw [if_neg c0] at h ⊢
    by_cases c1 : c = 1
    · rw [if_pos c1] at h ⊢; exact ax_eq_ok h hY hF hx hy
    · rw [if_neg c1] at h ⊢
      by_cases c2 : c = 2
      · rw [if_pos c2] at h ⊢; exact ax_lt_ok h hY hF hx hy
      · rw [if_neg c2] at h ⊢
        by_cases c3 : c = 3
        · rw [if_pos c3] at h ⊢; exact ax_lt_ok h hY hF hx hy
        · rw [if_neg c3] at h ⊢
          by_cases c4 : c = 4
          · rw [if_pos c4] at h ⊢; exact ax_lt_ok h hY hF hy hx
          · rw [if_neg c4] at h ⊢; exact ax_lt_ok h hY hF hy hx
end AXCmp4
