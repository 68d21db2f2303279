/-! ax: a new symbol -/
section AXNew
variable {ρ ρ' : List Nat} {Y : ax_Y} {n : Nat} {F : ax_F} {a z r : Nat} {e : ax_E}
theorem ax_J.mono (h : ax_J ρ a z) (hp : ρ <+: ρ') : ax_J ρ' a z := by
  rcases h with ⟨h0, h | ⟨h1, s, h2, h3⟩⟩
  · exact ⟨h0, Or.inl h⟩
  · exact ⟨h0, Or.inr ⟨h1, s, sx_pre hp h2, h3⟩⟩
theorem ax_Fk.mono (h : ax_Fk ρ F) (hp : ρ <+: ρ') : ax_Fk ρ' F := fun f hf => by
  obtain ⟨x, y, h1, h2, h3⟩ := h f hf
  exact ⟨x, y, sx_pre hp h1, sx_pre hp h2, h3⟩
theorem ax_En.mono (h : ax_En ρ r e) (hp : ρ <+: ρ') : ax_En ρ' r e := by
  obtain ⟨h1, h2, h3, h4, h5, h6, h7, h8, h9⟩ := h
  refine ⟨h1, h2, fun q => ?_, fun q => ?_, fun q => ?_, fun q => ?_, fun q => ?_, fun q => ?_, fun q => ?_⟩
  · obtain ⟨z, a, b⟩ := h3 q; exact ⟨z, a.mono hp, b⟩
  · obtain ⟨x, y, a, b, c⟩ := h4 q; exact ⟨x, y, a.mono hp, b.mono hp, c⟩
  · obtain ⟨x, y, a, b, c⟩ := h5 q; exact ⟨x, y, a.mono hp, b.mono hp, c⟩
  · obtain ⟨x, y, a, b, c⟩ := h6 q; exact ⟨x, y, a.mono hp, b.mono hp, c⟩
  · obtain ⟨x, a, b⟩ := h7 q; exact ⟨x, a.mono hp, b⟩
  · obtain ⟨x, a, b⟩ := h8 q; exact ⟨x, a.mono hp, b⟩
  · obtain ⟨j, a, b⟩ := h9 q; exact ⟨j, a.mono hp, b⟩
/-- a symbol more -/
theorem ax_Yk.cons (h : ax_Yk ρ Y n) (he : ax_En ρ r e) : ax_Yk (ρ ++ [r]) (e :: Y) (n + 1) := by
  refine ⟨by rw [List.length_append, h.1]; rfl, by rw [List.length_cons, h.2.1], fun k s e' hk he' => ?_⟩
  have hp : ρ <+: ρ ++ [r] := List.prefix_append _ _
  have h1 := h.1
  have hl := (List.getElem?_eq_some_iff.mp hk).1
  rw [List.length_append] at hl
  by_cases hkn : k < n
  · rw [List.getElem?_append_left (by omega)] at hk
    rw [show n + 1 - 1 - k = (n - 1 - k) + 1 by omega, List.getElem?_cons_succ] at he'
    exact (h.2.2 k s e' hk he').mono hp
  · have hk0 : k = n := by simp at hl; omega
    subst hk0
    rw [List.getElem?_append_right (by omega), h1, Nat.sub_self] at hk
    rw [show k + 1 - 1 - k = 0 by omega] at he'
    cases hk
    cases he'
    exact he.mono hp
theorem ax_sym_J (hn : n < 65536) (hl : ρ.length = n) (hr : r < 4294967296) : ax_J (ρ ++ [r]) (ax_sym n) r := by
  have e : ax_sym n = 8 * (n + 562949953421312) + 1 := rfl
  refine ⟨hr, Or.inr ⟨by rw [e]; omega, r, ?_, ?_⟩⟩
  · rw [ax_k_eq, e, show (8 * (n + 562949953421312) + 1) / 8 % 65536 = n by omega, List.getElem?_append_right (by omega), hl, Nat.sub_self]
    rfl
  · rw [ax_o_eq, e]
    omega
end AXNew
