/-! ax: bits of a byte, and of none, out of the walk -/
theorem ax_v765 {N : Nat} {sy : sx_Y} (h : ax_Sc N sy) : ax_Valid N sy ax_c765 := ax_vsharp (lo := 0) (hi := 4294967295) (r1 := 2147483648) (r2 := 2147483679) (ax_vd (g := ax_g755) h True.intro rfl rfl rfl ax_q755) (by decide) (by decide) (fun W z g Lj zR z1 z2 hx => by
  have hl : sx_xp [fI z] (sx_im (sx_mt 328).2) = some [fI z, 7, 7] := f_xp (by intro v hv; simp only [List.mem_cons, List.not_mem_nil, or_false] at hv; subst hv; exact fI_n4 _) (show 1 ≤ _ by decide +kernel)
  have e : Lj = [fI z, 7, 7] := Option.some.inj (hx.symm.trans hl)
  subst e
  have b := pB_b (s := z) (by omega) (by omega)
  have b3 := b.2.2.1
  exact fx.up (sp_mbits8 (r := 0) (Q := fun k v _ => k = 1 ∧ ∃ y, v = fI y ∧ fR y ∧ ((2147483648 : Nat) : Int) ≤ y + 2147483648 ∧ y + 2147483648 ≤ ((2147483656 : Nat) : Int)) ⟨rfl, pB z 31, rfl, by unfold fR; omega, by omega, by omega⟩) (Nat.zero_le _) (Nat.le_refl _))
