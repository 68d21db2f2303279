/-! ax: a new symbol -/
section AXNew
variable {ρ ρ' : List Nat} {Y : ax_Y} {n : Nat} {F : ax_F} {a z r : Nat} {e : ax_E}
theorem ax_J.mono (h : ax_J ρ a z) (hp : ρ <+: ρ') : ax_J ρ' a z := by
  rcases h with ⟨h0, h | ⟨h1, s, h2, h3⟩⟩
  · exact ⟨h0, Or.inl h⟩
  · exact ⟨h0, Or.inr ⟨h1, s, sx_pre hp h2, h3⟩⟩
theorem ax_Fk.mono (h : ax_Fk ρ F) (hp : ρ <+: ρ') : ax_Fk ρ' F := fun f hf => by
  obtain ⟨x, y, h1, h2, h3⟩ := h f hf
  exact ⟨x, y, sx_pre hp h1, sx_pre hp h2, h3⟩
theorem ax_En.mono (h : ax_En ρ r e) (hp : ρ <+: ρ') : ax_En ρ' r e := by
  obtain ⟨h1, h2, h3, h4, h5, h6, h7, h8, h9⟩ := h
  refine ⟨h1, h2, fun q => ?_, fun q => ?_, fun q => ?_, fun q => ?_, fun q => ?_, fun q => ?_, fun q => ?_⟩
  · obtain ⟨z, a, b⟩ := h3 q; exact ⟨z, a.mono hp, b⟩
  · obtain ⟨x, y, a, b, c⟩ := h4 q; exact ⟨x, y, a.mono hp, b.mono hp, c⟩
  · obtain ⟨x, y, a, b, c⟩ := h5 q; exact ⟨x, y, a.mono hp, b.mono hp, c⟩
  · obtain ⟨x, y, a, b, c⟩ := h6 q; exact ⟨x, y, a.mono hp, b.mono hp, c⟩
  · obtain ⟨x, a, b⟩ := h7 q; exact ⟨x, a.mono hp, b⟩
  · obtain ⟨x, a, b⟩ := h8 q; exact ⟨x, a.mono hp, b⟩
  · obtain ⟨j, a, b⟩ := h9 q; exact ⟨j, a.mono hp, b⟩
/-- a symbol more -/
theorem ax_Yk.cons (h : ax_Yk ρ Y n) (he : ax_En ρ r e) : ax_Yk (ρ ++ [r]) (e :: Y) (n + 1) := by
  refine ⟨by rw [List.length_append, h.1]; rfl, by rw [List.length_cons, h.2.1], fun k s e' hk he' => ?_⟩
  have hp : ρ <+: ρ ++ [r] := List.prefix_append _ _
  have h1 := h.1
  have hl := (List.getElem?_eq_some_iff.mp hk).1
  rw [List.length_append] at hl
  by_cases hkn : k < n
  · rw [List.getElem?_append_left (by omega)] at hk
    rw [show n + 1 - 1 - k = (n - 1 - k) + 1 by omega, List.getElem?_cons_succ] at he'
    exact (h.2.2 k s e' hk he').mono hp
  · have hk0 : k = n := by simp at hl; omega
    subst hk0
    rw [List.getElem?_append_right (by omega), h1, Nat.sub_self] at hk
    rw [show k + 1 - 1 - k = 0 by omega] at he'
    cases hk
    cases he'
    exact he.mono hp
theorem ax_sym_J (hn : n < 65536) (hl : ρ.length = n) (hr : r < 4294967296) : ax_J (ρ ++ [r]) (ax_sym n) r := by
  have e : ax_sym n = 8 * (n + 562949953421312) + 1 := rfl
  refine ⟨hr, Or.inr ⟨by rw [e]; omega, r, ?_, ?_⟩⟩
  · rw [ax_k_eq, e, show (8 * (n + 562949953421312) + 1) / 8 % 65536 = n by omega, List.getElem?_append_right (by omega), hl, Nat.sub_self]
    rfl
  · rw [ax_o_eq, e]
    omega
theorem ax_fr_ok {lo hi ge op x y : Nat} {K : Nat → ax_Y → Nat → ax_R} {outs : List ax_O} (h : ax_fr Y n lo hi ge op x y K = some outs) (hY : ax_Yk ρ Y n) (hE : ax_En ρ r (lo, hi, ge, op, x, y)) : ∃ v, K v ((lo, hi, ge, op, x, y) :: Y) (n + 1) = some outs ∧ ax_Yk (ρ ++ [r]) ((lo, hi, ge, op, x, y) :: Y) (n + 1) ∧ ax_J (ρ ++ [r]) v r := by
  unfold ax_fr at h
  cases hn : Nat.blt n 65536 with
  | false => rw [hn, sx_if_f] at h; cases h
  | true =>
    rw [hn, sx_if_t] at h
    simp only [sx_fo_eq] at h
    exact ⟨_, h, hY.cons hE, ax_sym_J (sx_blt hn) hY.1 hE.2.1⟩
/-- an int of which nothing more is known -/
theorem ax_En.plain {lo hi : Nat} (h1 : lo ≤ r) (h2 : r ≤ hi) (h3 : r < 4294967296) : ax_En ρ r (lo, hi, 0, 0, 0, 0) :=
  ⟨⟨h1, h2⟩, h3, fun q => by simp at q, fun q => by simp at q, fun q => by simp at q, fun q => by simp at q, fun q => by simp at q, fun q => by simp at q, fun q => by simp at q⟩
theorem ax_any_ok {K : Nat → ax_Y → Nat → ax_R} {outs : List ax_O} (h : ax_any Y n K = some outs) (hY : ax_Yk ρ Y n) (hr : r < 4294967296) : ∃ v Y' n', K v Y' n' = some outs ∧ ax_Yk (ρ ++ [r]) Y' n' ∧ ax_J (ρ ++ [r]) v r := by
  obtain ⟨v, h1, h2, h3⟩ := ax_fr_ok h hY (ax_En.plain (Nat.zero_le _) (by omega) hr)
  exact ⟨v, _, _, h1, h2, h3⟩
end AXNew
