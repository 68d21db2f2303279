/-! ax: comparisons -/
section AXCmp2
variable {ρ : List Nat} {Y : ax_Y} {n : Nat} {F : ax_F}
theorem ax_dn_ok {ky : Nat} {e : ax_E} : ∀ {Y : ax_Y}, ax_dn Y ky = some e → e ∈ Y ∧ e.2.2.2.1 = 2 ∧ e.2.2.2.2.1 % 8 = 1 ∧ ax_k e.2.2.2.2.1 = ky ∧ e.2.2.2.2.2 % 8 = 1
  | [], h => by cases h
  | q :: Y, h => by
    have h : sx_if (sx_and (Nat.beq q.2.2.2.1 2) (sx_and (Nat.beq (sx_tg q.2.2.2.2.1) 1) (sx_and (Nat.beq (ax_k q.2.2.2.2.1) ky) (Nat.beq (sx_tg q.2.2.2.2.2) 1)))) (some q) (ax_dn Y ky) = some e := h
    cases hc : sx_and (Nat.beq q.2.2.2.1 2) (sx_and (Nat.beq (sx_tg q.2.2.2.2.1) 1) (sx_and (Nat.beq (ax_k q.2.2.2.2.1) ky) (Nat.beq (sx_tg q.2.2.2.2.2) 1))) with
    | true =>
      rw [hc, sx_if_t] at h
      cases h
      obtain ⟨h1, h2⟩ := sx_and_ok hc
      obtain ⟨h2, h3⟩ := sx_and_ok h2
      obtain ⟨h3, h4⟩ := sx_and_ok h3
      exact ⟨List.mem_cons_self, sx_beq h1, sx_beq h2, sx_beq h3, sx_beq h4⟩
    | false =>
      rw [hc, sx_if_f] at h
      obtain ⟨h1, h2⟩ := ax_dn_ok h
      exact ⟨List.mem_cons_of_mem _ h1, h2⟩
theorem ax_sh_eq (g m : Nat) : Nat.sub (Nat.add g (Nat.mul 524288 m)) 4503599627370496 = g + 524288 * m - 4503599627370496 := rfl
theorem ax_s2_eq (g a b c : Nat) : Nat.sub (Nat.add g (Nat.mul 524288 (Nat.add a b))) (Nat.mul 524288 (Nat.add 2147483648 c)) = g + 524288 * (a + b) - 524288 * (2147483648 + c) := rfl
theorem ax_le_Z {x c zx : Nat} (hY : ax_Yk ρ Y n) (hF : ax_Fk ρ F) (hx : ax_J ρ x zx) : ∀ (fuel y : Nat) (zy : Int), ax_Z ρ y zy → ax_le F Y n x c fuel y = true → ((zx + c : Nat) : Int) ≤ zy ∨ zx + c = 0 := by
  intro fuel
  induction fuel with
  | zero => intro y zy hz h; exact ax_l0_ok hY hF hx hz h
  | succ fuel ih =>
    intro y zy hz h
    have h : sx_if (ax_l0 F Y n x y c) true (sx_if (Nat.beq (sx_tg y) 1) (Option.rec false (fun e => sx_if (Nat.beq (sx_tg (Nat.pred e.2.2.1)) 1)
      (sx_fo (Nat.sub (Nat.add (Nat.pred e.2.2.1) (Nat.mul 524288 (ax_o y))) 4503599627370496) (fun y => sx_if (Nat.ble 4294967296 (ax_o y)) (ax_le F Y n x c fuel y) false))
      (Option.rec false (fun e => sx_fo (Nat.sub (Nat.add e.2.2.2.2.2 (Nat.mul 524288 (Nat.add e.1 (ax_o y)))) (Nat.mul 524288 (Nat.add 2147483648 (ax_o e.2.2.2.2.1)))) (fun y => sx_if (Nat.ble 4294967296 (ax_o y)) (ax_le F Y n x c fuel y) false)) (ax_dn Y (ax_k y)))) (ax_at Y n (ax_k y))) false) = true := h
    cases h0 : ax_l0 F Y n x y c with
    | true => exact ax_l0_ok hY hF hx hz h0
    | false =>
      rw [h0, sx_if_f] at h
      cases ht : Nat.beq (sx_tg y) 1 with
      | false => rw [ht, sx_if_f] at h; cases h
      | true =>
        rw [ht, sx_if_t] at h
        have t : y % 8 = 1 := sx_beq ht
        obtain ⟨r, y1, y2⟩ : ∃ r, ρ[ax_k y]? = some r ∧ zy + 8589934592 = (r : Int) + (ax_o y : Int) := by
          rcases hz with ⟨t', -⟩ | ⟨-, h⟩
          · omega
          · exact h
        obtain ⟨e, he, hE⟩ := hY.at y1
        rw [he] at h
        have h : sx_if (Nat.beq (sx_tg (Nat.pred e.2.2.1)) 1)
          (sx_fo (Nat.sub (Nat.add (Nat.pred e.2.2.1) (Nat.mul 524288 (ax_o y))) 4503599627370496) (fun y => sx_if (Nat.ble 4294967296 (ax_o y)) (ax_le F Y n x c fuel y) false))
          (Option.rec false (fun e => sx_fo (Nat.sub (Nat.add e.2.2.2.2.2 (Nat.mul 524288 (Nat.add e.1 (ax_o y)))) (Nat.mul 524288 (Nat.add 2147483648 (ax_o e.2.2.2.2.1)))) (fun y => sx_if (Nat.ble 4294967296 (ax_o y)) (ax_le F Y n x c fuel y) false)) (ax_dn Y (ax_k y))) = true := h
        have fin : ∀ (g y' : Nat) (m : Nat) (zg : Nat), ax_J ρ g zg → g % 8 = 1 → y' = g + 524288 * m - 4503599627370496 → 4294967296 ≤ y' / 524288 → ax_Z ρ y' ((zg : Int) + m - 8589934592) := by
          intro g y' m zg hg tg hy' hb
          obtain ⟨s, s1, s2⟩ := hg.t1 tg
          rw [ax_k_eq] at s1
          rw [ax_o_eq] at s2
          refine Or.inr ⟨by omega, s, ?_, ?_⟩
          · rw [ax_k_eq, show y' / 8 % 65536 = g / 8 % 65536 by omega]; exact s1
          · rw [ax_o_eq]; omega
        cases hg : Nat.beq (sx_tg (Nat.pred e.2.2.1)) 1 with
        | true =>
          rw [hg, sx_if_t, sx_fo_eq] at h
          obtain ⟨hb, h⟩ := (show Nat.ble 4294967296 (ax_o (Nat.sub (Nat.add (Nat.pred e.2.2.1) (Nat.mul 524288 (ax_o y))) 4503599627370496)) = true ∧ ax_le F Y n x c fuel (Nat.sub (Nat.add (Nat.pred e.2.2.1) (Nat.mul 524288 (ax_o y))) 4503599627370496) = true by
            cases hb : Nat.ble 4294967296 (ax_o (Nat.sub (Nat.add (Nat.pred e.2.2.1) (Nat.mul 524288 (ax_o y))) 4503599627370496)) with
            | true => rw [hb, sx_if_t] at h; exact ⟨rfl, h⟩
            | false => rw [hb, sx_if_f] at h; cases h)
          have tg : (e.2.2.1 - 1) % 8 = 1 := sx_beq hg
          obtain ⟨zg, jg, lg⟩ := hE.2.2.1 tg
          have hy' := ax_sh_eq (Nat.pred e.2.2.1) (ax_o y)
          rw [hy'] at h hb
          have := ih _ _ (fin (e.2.2.1 - 1) (e.2.2.1 - 1 + 524288 * ax_o y - 4503599627370496) (ax_o y) zg jg tg (Eq.refl _) (Nat.le_of_ble_eq_true hb)) h
          omega
        | false =>
          rw [hg, sx_if_f] at h
          cases hd : ax_dn Y (ax_k y) with
          | none => rw [hd] at h; cases h
          | some e' =>
            rw [hd] at h
            obtain ⟨d1, d2, d3, d4, d5⟩ := ax_dn_ok hd
            obtain ⟨r', hE'⟩ := hY.mem d1
            obtain ⟨⟨b1, b2⟩, -, -, -, s2, -⟩ := hE'
            obtain ⟨u, v, iu, iv, s⟩ := s2 d2
            obtain ⟨ru, u1, u2⟩ := iu.t1 d3
            rw [d4] at u1
            cases u1.symm.trans y1
            have h : sx_fo (Nat.sub (Nat.add e'.2.2.2.2.2 (Nat.mul 524288 (Nat.add e'.1 (ax_o y)))) (Nat.mul 524288 (Nat.add 2147483648 (ax_o e'.2.2.2.2.1)))) (fun y => sx_if (Nat.ble 4294967296 (ax_o y)) (ax_le F Y n x c fuel y) false) = true := h
            rw [sx_fo_eq] at h
            cases hb : Nat.ble 4294967296 (ax_o (Nat.sub (Nat.add e'.2.2.2.2.2 (Nat.mul 524288 (Nat.add e'.1 (ax_o y)))) (Nat.mul 524288 (Nat.add 2147483648 (ax_o e'.2.2.2.2.1))))) with
            | false => rw [hb, sx_if_f] at h; cases h
            | true =>
              rw [hb, sx_if_t] at h
              rw [ax_s2_eq] at h hb
              have hb := Nat.le_of_ble_eq_true hb
              rw [ax_o_eq] at hb
              obtain ⟨rv, v1, v2⟩ := iv.t1 d5
              rw [ax_k_eq] at v1
              rw [ax_o_eq] at v2
              have hz' : ax_Z ρ (e'.2.2.2.2.2 + 524288 * (e'.1 + ax_o y) - 524288 * (2147483648 + ax_o e'.2.2.2.2.1)) ((v : Int) + e'.1 + (ax_o y : Int) - 2147483648 - (ax_o e'.2.2.2.2.1 : Int)) := by
                generalize ax_o y = oy at hb ⊢
                generalize ax_o e'.2.2.2.2.1 = ou at hb ⊢
                generalize e'.2.2.2.2.2 = g at hb v1 v2 d5 ⊢
                refine Or.inr ⟨by omega, rv, ?_, ?_⟩
                · rw [ax_k_eq, show (g + 524288 * (e'.1 + oy) - 524288 * (2147483648 + ou)) / 8 % 65536 = g / 8 % 65536 by omega]; exact v1
                · rw [ax_o_eq]; omega
              have := ih _ _ hz' h
              omega
end AXCmp2
