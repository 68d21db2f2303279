/-! ax: x and c more is at most y -/
section AXCmp
variable {ρ : List Nat} {Y : ax_Y} {n : Nat} {F : ax_F}
theorem ax_fk_ok {kx ky : Nat} {t : Nat → Bool} : ∀ {F : ax_F}, ax_fk F kx ky t = true → ∃ f, (kx, ky, f) ∈ F ∧ t f = true
  | [], h => by cases h
  | q :: F, h => by
    have h : sx_if (sx_and (Nat.beq q.1 kx) (sx_and (Nat.beq q.2.1 ky) (t q.2.2))) true (ax_fk F kx ky t) = true := h
    cases hc : sx_and (Nat.beq q.1 kx) (sx_and (Nat.beq q.2.1 ky) (t q.2.2)) with
    | true =>
      obtain ⟨h1, h2⟩ := sx_and_ok hc
      obtain ⟨h2, h3⟩ := sx_and_ok h2
      obtain ⟨a, b, c⟩ := q
      have h1 : a = kx := sx_beq h1
      have h2 : b = ky := sx_beq h2
      subst h1 h2
      exact ⟨c, List.mem_cons_self, h3⟩
    | false =>
      rw [hc, sx_if_f] at h
      obtain ⟨f, h1, h2⟩ := ax_fk_ok h
      exact ⟨f, List.mem_cons_of_mem _ h1, h2⟩
theorem ax_Yk.mem (h : ax_Yk ρ Y n) {e : ax_E} (he : e ∈ Y) : ∃ r, ax_En ρ r e := by
  obtain ⟨i, hi, rfl⟩ := List.getElem_of_mem he
  have h1 := h.1
  have h2 := h.2.1
  have hk : n - 1 - i < ρ.length := by omega
  exact ⟨ρ[n - 1 - i], h.2.2 (n - 1 - i) _ _ (List.getElem?_eq_getElem hk) (by rw [show n - 1 - (n - 1 - i) = i by omega]; exact List.getElem?_eq_getElem hi)⟩
theorem ax_dk_ok {kx ox ky oy c : Nat} : ∀ {Y : ax_Y}, ax_dk Y kx ox ky oy c = true → ∃ e ∈ Y, e.2.2.2.1 = 2 ∧ e.2.2.2.2.1 % 8 = 1 ∧ e.2.2.2.2.2 % 8 = 1 ∧ ((ax_k e.2.2.2.2.1 = ky ∧ ax_k e.2.2.2.2.2 = kx ∧ c + 2147483648 + (ax_o e.2.2.2.2.1 + ox) ≤ e.1 + (oy + ax_o e.2.2.2.2.2)) ∨ (ax_k e.2.2.2.2.1 = kx ∧ ax_k e.2.2.2.2.2 = ky ∧ c + e.2.1 + (ax_o e.2.2.2.2.2 + ox) ≤ 2147483648 + (oy + ax_o e.2.2.2.2.1)))
  | [], h => by cases h
  | e :: Y, h => by
    have h : sx_if (sx_and (Nat.beq e.2.2.2.1 2) (sx_and (Nat.beq (sx_tg e.2.2.2.2.1) 1) (Nat.beq (sx_tg e.2.2.2.2.2) 1))) (sx_if (sx_and (Nat.beq (ax_k e.2.2.2.2.1) ky) (sx_and (Nat.beq (ax_k e.2.2.2.2.2) kx) (Nat.ble (Nat.add (Nat.add c 2147483648) (Nat.add (ax_o e.2.2.2.2.1) ox)) (Nat.add e.1 (Nat.add oy (ax_o e.2.2.2.2.2)))))) true
      (sx_if (sx_and (Nat.beq (ax_k e.2.2.2.2.1) kx) (sx_and (Nat.beq (ax_k e.2.2.2.2.2) ky) (Nat.ble (Nat.add (Nat.add c e.2.1) (Nat.add (ax_o e.2.2.2.2.2) ox)) (Nat.add 2147483648 (Nat.add oy (ax_o e.2.2.2.2.1)))))) true (ax_dk Y kx ox ky oy c))) (ax_dk Y kx ox ky oy c) = true := h
    have back : ax_dk Y kx ox ky oy c = true → ∃ e' ∈ e :: Y, e'.2.2.2.1 = 2 ∧ e'.2.2.2.2.1 % 8 = 1 ∧ e'.2.2.2.2.2 % 8 = 1 ∧ ((ax_k e'.2.2.2.2.1 = ky ∧ ax_k e'.2.2.2.2.2 = kx ∧ c + 2147483648 + (ax_o e'.2.2.2.2.1 + ox) ≤ e'.1 + (oy + ax_o e'.2.2.2.2.2)) ∨ (ax_k e'.2.2.2.2.1 = kx ∧ ax_k e'.2.2.2.2.2 = ky ∧ c + e'.2.1 + (ax_o e'.2.2.2.2.2 + ox) ≤ 2147483648 + (oy + ax_o e'.2.2.2.2.1))) := fun h => by
      obtain ⟨e', h1, h2⟩ := ax_dk_ok h
      exact ⟨e', List.mem_cons_of_mem _ h1, h2⟩
    cases hc : sx_and (Nat.beq e.2.2.2.1 2) (sx_and (Nat.beq (sx_tg e.2.2.2.2.1) 1) (Nat.beq (sx_tg e.2.2.2.2.2) 1)) with
    | false => rw [hc, sx_if_f] at h; exact back h
    | true =>
      rw [hc, sx_if_t] at h
      obtain ⟨h1, h2⟩ := sx_and_ok hc
      obtain ⟨h2, h3⟩ := sx_and_ok h2
      have h1 := sx_beq h1
      have h2 : e.2.2.2.2.1 % 8 = 1 := sx_beq h2
      have h3 : e.2.2.2.2.2 % 8 = 1 := sx_beq h3
      cases hd : sx_and (Nat.beq (ax_k e.2.2.2.2.1) ky) (sx_and (Nat.beq (ax_k e.2.2.2.2.2) kx) (Nat.ble (Nat.add (Nat.add c 2147483648) (Nat.add (ax_o e.2.2.2.2.1) ox)) (Nat.add e.1 (Nat.add oy (ax_o e.2.2.2.2.2))))) with
      | true =>
        obtain ⟨d1, d2⟩ := sx_and_ok hd
        obtain ⟨d2, d3⟩ := sx_and_ok d2
        exact ⟨e, List.mem_cons_self, h1, h2, h3, Or.inl ⟨sx_beq d1, sx_beq d2, sx_ble d3⟩⟩
      | false =>
        rw [hd, sx_if_f] at h
        cases he : sx_and (Nat.beq (ax_k e.2.2.2.2.1) kx) (sx_and (Nat.beq (ax_k e.2.2.2.2.2) ky) (Nat.ble (Nat.add (Nat.add c e.2.1) (Nat.add (ax_o e.2.2.2.2.2) ox)) (Nat.add 2147483648 (Nat.add oy (ax_o e.2.2.2.2.1))))) with
        | true =>
          obtain ⟨d1, d2⟩ := sx_and_ok he
          obtain ⟨d2, d3⟩ := sx_and_ok d2
          exact ⟨e, List.mem_cons_self, h1, h2, h3, Or.inr ⟨sx_beq d1, sx_beq d2, sx_ble d3⟩⟩
        | false => rw [he, sx_if_f] at h; exact back h
/-- a value as a whole number, which may be out of bounds -/
def ax_Z (ρ : List Nat) (a : Nat) (z : Int) : Prop := (a % 8 = 0 ∧ z = (sx_bs (a / 8) : Nat)) ∨ (a % 8 = 1 ∧ ∃ r, ρ[ax_k a]? = some r ∧ z + 8589934592 = (r : Int) + (ax_o a : Int))
theorem ax_J.Z {a z : Nat} (h : ax_J ρ a z) : ax_Z ρ a (z : Int) := by
  rcases h.2 with ⟨h1, -, h2⟩ | ⟨h1, r, h2, h3⟩
  · exact Or.inl ⟨h1, by rw [h2]⟩
  · exact Or.inr ⟨h1, r, h2, by omega⟩
theorem ax_lo_ok {K : Nat → Nat → Bool} {y : Nat} {z : Int} (hY : ax_Yk ρ Y n) (hz : ax_Z ρ y z) : ∃ lo hi, ax_rg false Y n y K = K lo hi ∧ ((lo : Int) ≤ z ∨ lo = 0) := by
  unfold ax_rg
  rcases hz with ⟨t, h1⟩ | ⟨t, r, h1, h2⟩
  · rw [sx_beq_t (show sx_tg y = 0 from t), sx_if_t, sx_fo_eq]
    exact ⟨_, _, rfl, Or.inl (by rw [h1]; exact Int.le_refl _)⟩
  · rw [sx_beq_e (show ¬ sx_tg y = 0 by show ¬ y % 8 = 0; omega), sx_if_f, sx_beq_t (show sx_tg y = 1 from t), sx_if_t]
    obtain ⟨e, he, hE⟩ := hY.at h1
    rw [he]
    refine ⟨Nat.sub (Nat.add e.1 (ax_o y)) 8589934592, Nat.sub (Nat.add e.2.1 (ax_o y)) 8589934592, by show sx_fo _ _ = _; rw [sx_fo_eq, sx_fo_eq], ?_⟩
    have := hE.1.1
    show ((e.1 + ax_o y - 8589934592 : Nat) : Int) ≤ z ∨ e.1 + ax_o y - 8589934592 = 0
    omega
theorem ax_l0_ok {x y c zx : Nat} {zy : Int} (hY : ax_Yk ρ Y n) (hF : ax_Fk ρ F) (hx : ax_J ρ x zx) (hy : ax_Z ρ y zy) (h : ax_l0 F Y n x y c = true) : ((zx + c : Nat) : Int) ≤ zy ∨ zx + c = 0 := by
  unfold ax_l0 at h
  obtain ⟨xl, xh, g, g1, g2⟩ := ax_rg_ok (df := false) (K := fun _ xh => ax_rg false Y n y (fun yl _ => Nat.ble (Nat.add xh c) yl)) hY hx
  obtain ⟨yl, yh, k, k1⟩ := ax_lo_ok (K := fun yl _ => Nat.ble (Nat.add xh c) yl) hY hy
  rw [g, k] at h
  cases hb : Nat.ble (Nat.add xh c) yl with
  | true =>
    have : xh + c ≤ yl := sx_ble hb
    omega
  | false =>
    rw [hb, sx_if_f] at h
    cases ht : sx_and (Nat.beq (sx_tg x) 1) (Nat.beq (sx_tg y) 1) with
    | false => rw [ht, sx_if_f] at h; cases h
    | true =>
      rw [ht, sx_if_t] at h
      obtain ⟨t1, t2⟩ := sx_and_ok ht
      have t1 : x % 8 = 1 := sx_beq t1
      have t2 : y % 8 = 1 := sx_beq t2
      obtain ⟨rx, x1, x2⟩ := hx.t1 t1
      obtain ⟨ry, y1, y2⟩ : ∃ r, ρ[ax_k y]? = some r ∧ zy + 8589934592 = (r : Int) + (ax_o y : Int) := by
        rcases hy with ⟨t, -⟩ | ⟨-, h⟩
        · omega
        · exact h
      cases hk : Nat.beq (ax_k x) (ax_k y) with
      | true =>
        rw [hk, sx_if_t] at h
        have : ax_o x + c ≤ ax_o y := sx_ble h
        rw [sx_beq hk] at x1
        cases x1.symm.trans y1
        left; omega
      | false =>
        rw [hk, sx_if_f] at h
        cases hf : ax_fk F (ax_k x) (ax_k y) (fun f => Nat.ble (Nat.add (Nat.add (ax_o x) c) 34359738368) (Nat.add f (ax_o y))) with
        | true =>
          obtain ⟨f, f1, f2⟩ := ax_fk_ok hf
          have f2 : ax_o x + c + 34359738368 ≤ f + ax_o y := sx_ble f2
          obtain ⟨u, v, e1, e2, this⟩ := hF _ f1
          dsimp only at this e1 e2
          cases x1.symm.trans e1
          cases y1.symm.trans e2
          left; omega
        | false =>
          rw [hf, sx_if_f] at h
          obtain ⟨e, e1, e2, e3, e4, e5⟩ := ax_dk_ok h
          obtain ⟨r, hE⟩ := hY.mem e1
          obtain ⟨⟨b1, b2⟩, -, -, -, s2, -⟩ := hE
          obtain ⟨u, v, iu, iv, s⟩ := s2 e2
          obtain ⟨ru, u1, u2⟩ := iu.t1 e3
          obtain ⟨rv, v1, v2⟩ := iv.t1 e4
          rcases e5 with ⟨d1, d2, d3⟩ | ⟨d1, d2, d3⟩
          · rw [d1] at u1
            rw [d2] at v1
            cases u1.symm.trans y1
            cases v1.symm.trans x1
            left; omega
          · rw [d1] at u1
            rw [d2] at v1
            cases u1.symm.trans x1
            cases v1.symm.trans y1
            left; omega
end AXCmp
