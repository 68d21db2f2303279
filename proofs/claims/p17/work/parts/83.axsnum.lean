/-! ax: what its numbers mean -/
theorem ax_bs_lt (x : Nat) : sx_bs x < 4294967296 := Nat.mod_lt _ (by decide)
theorem ax_bs_eq (x : Nat) : sx_bs x = (x + 2147483648) % 4294967296 := rfl
theorem sx_bs_bs {z : Nat} (h : z < 4294967296) : sx_bs (sx_bs z) = z := by rw [ax_bs_eq, ax_bs_eq]; omega
theorem ax_k_eq (a : Nat) : ax_k a = a / 8 % 65536 := rfl
theorem ax_o_eq (a : Nat) : ax_o a = a / 524288 := rfl
/-- a is the int z, which has 2^31 more than the int itself -/
def ax_J (ρ : List Nat) (a z : Nat) : Prop := z < 4294967296 ∧ ((a % 8 = 0 ∧ a < 34359738368 ∧ z = sx_bs (a / 8)) ∨ (a % 8 = 1 ∧ ∃ r, ρ[ax_k a]? = some r ∧ z + 8589934592 = r + ax_o a))
/-- the value z may stand at place j of the cell c -/
def ax_Sk (c j z : Nat) : Prop := ax_gK ax_gt c (fun _ per l => ∃ s, ax_sg l (j % per) (j % per) = some s ∧ ((s.2.1 = 0 ∧ s.2.2.1 ≤ z ∧ z ≤ s.2.2.2.1) ∨ (s.2.1 = 4 ∧ ((s.2.2.1 ≤ z ∧ z ≤ s.2.2.2.1) ∨ (s.2.2.2.2.1 ≤ z ∧ z ≤ s.2.2.2.2.2)))))
def ax_En (ρ : List Nat) (r : Nat) (e : ax_E) : Prop :=
  (e.1 ≤ r ∧ r ≤ e.2.1) ∧ r < 4294967296 ∧ ((e.2.2.1 - 1) % 8 = 1 → ∃ z, ax_J ρ (e.2.2.1 - 1) z ∧ z ≤ r) ∧
  (e.2.2.2.1 = 1 → ∃ x y, ax_J ρ e.2.2.2.2.1 x ∧ ax_J ρ e.2.2.2.2.2 y ∧ r + 2147483648 = x + y) ∧
  (e.2.2.2.1 = 2 → ∃ x y, ax_J ρ e.2.2.2.2.1 x ∧ ax_J ρ e.2.2.2.2.2 y ∧ r + y = x + 2147483648) ∧
  (e.2.2.2.1 = 3 → ∃ x y, ax_J ρ e.2.2.2.2.1 x ∧ ax_J ρ e.2.2.2.2.2 y ∧ sx_bs r = sx_bs x &&& (4294967295 - sx_bs y)) ∧
  (e.2.2.2.1 = 4 → ∃ x, ax_J ρ e.2.2.2.2.1 x ∧ 2147483648 ≤ x ∧ x < 2147483904 ∧ r = 2147483648 + ax_pc (x - 2147483648)) ∧
  (e.2.2.2.1 = 5 → ∃ x, ax_J ρ e.2.2.2.2.1 x ∧ r + x = 4294967295) ∧
  (e.2.2.2.1 = 6 → ∃ j, ax_J ρ e.2.2.2.2.2 (2147483648 + j) ∧ ax_Sk e.2.2.2.2.1 j r)
def ax_Yk (ρ : List Nat) (Y : ax_Y) (n : Nat) : Prop := ρ.length = n ∧ Y.length = n ∧ ∀ k r e, ρ[k]? = some r → Y[n - 1 - k]? = some e → ax_En ρ r e
def ax_Fk (ρ : List Nat) (F : ax_F) : Prop := ∀ f ∈ F, ∃ x y, ρ[f.1]? = some x ∧ ρ[f.2.1]? = some y ∧ x + f.2.2 ≤ y + 34359738368
section AXNum
variable {ρ : List Nat} {Y : ax_Y} {n : Nat} {F : ax_F} {a z : Nat}
theorem ax_at_eq (Y : ax_Y) (n k : Nat) : ax_at Y n k = Y[n - 1 - k]? := by unfold ax_at; rw [sx_nth_eq]; rfl
theorem ax_Yk.at (h : ax_Yk ρ Y n) {k r : Nat} (hk : ρ[k]? = some r) : ∃ e, ax_at Y n k = some e ∧ ax_En ρ r e := by
  have hl := (List.getElem?_eq_some_iff.mp hk).1
  have hlt : n - 1 - k < Y.length := by rw [h.2.1]; have := h.1; omega
  exact ⟨Y[n - 1 - k], by rw [ax_at_eq]; exact List.getElem?_eq_getElem hlt, h.2.2 k r _ hk (List.getElem?_eq_getElem hlt)⟩
theorem ax_J.t0 (h : ax_J ρ a z) (ht : a % 8 = 0) : z = sx_bs (a / 8) ∧ a < 34359738368 := by
  rcases h.2 with ⟨-, h1, h2⟩ | ⟨h1, -⟩
  · exact ⟨h2, h1⟩
  · omega
theorem ax_J.t1 (h : ax_J ρ a z) (ht : a % 8 = 1) : ∃ r, ρ[ax_k a]? = some r ∧ z + 8589934592 = r + ax_o a := by
  rcases h.2 with ⟨h1, -⟩ | ⟨-, h1⟩
  · omega
  · exact h1
theorem ax_J.tag (h : ax_J ρ a z) : a % 8 = 0 ∨ a % 8 = 1 := by
  rcases h.2 with ⟨h1, -⟩ | ⟨h1, -⟩
  · exact Or.inl h1
  · exact Or.inr h1
theorem ax_J.num (h : z < 4294967296) : ax_J ρ (8 * sx_bs z) z := ⟨h, Or.inl ⟨by omega, by have := ax_bs_lt z; omega, by rw [Nat.mul_div_cancel_left _ (by decide), sx_bs_bs h]⟩⟩
theorem ax_J.uniq {z' : Nat} (h : ax_J ρ a z) (h' : ax_J ρ a z') : z = z' := by
  rcases h.tag with t | t
  · rw [(h.t0 t).1, (h'.t0 t).1]
  · obtain ⟨r, h1, h2⟩ := h.t1 t
    obtain ⟨r', h1', h2'⟩ := h'.t1 t
    cases h1.symm.trans h1'
    omega
theorem ax_rg_ok {α : Type} {df : α} {K : Nat → Nat → α} (hY : ax_Yk ρ Y n) (hI : ax_J ρ a z) : ∃ lo hi, ax_rg df Y n a K = K lo hi ∧ lo ≤ z ∧ z ≤ hi := by
  unfold ax_rg
  rcases hI.tag with t | t
  · rw [sx_beq_t (show sx_tg a = 0 from t), sx_if_t, sx_fo_eq]
    exact ⟨_, _, rfl, Nat.le_of_eq (hI.t0 t).1.symm, Nat.le_of_eq (hI.t0 t).1⟩
  · rw [sx_beq_e (show ¬ sx_tg a = 0 by show ¬ a % 8 = 0; omega), sx_if_f, sx_beq_t (show sx_tg a = 1 from t), sx_if_t]
    obtain ⟨r, h1, h2⟩ := hI.t1 t
    obtain ⟨e, he, hE⟩ := hY.at h1
    rw [he]
    refine ⟨Nat.sub (Nat.add e.1 (ax_o a)) 8589934592, Nat.sub (Nat.add e.2.1 (ax_o a)) 8589934592, by show sx_fo _ _ = _; rw [sx_fo_eq, sx_fo_eq], ?_, ?_⟩
    · show e.1 + ax_o a - 8589934592 ≤ z
      have := hE.1.1
      omega
    · show z ≤ e.2.1 + ax_o a - 8589934592
      have := hE.1.2
      omega
theorem ax_nm_ok {α : Type} {K : Nat → α} (hY : ax_Yk ρ Y n) (hI : ax_J ρ a z) : ∃ a', ax_nm Y n a K = K a' ∧ ax_J ρ a' z := by
  unfold ax_nm
  rcases hI.tag with t | t
  · rw [sx_beq_e (show ¬ sx_tg a = 1 by show ¬ a % 8 = 1; omega), sx_if_f]
    exact ⟨a, rfl, hI⟩
  · rw [sx_beq_t (show sx_tg a = 1 from t), sx_if_t]
    obtain ⟨r, h1, h2⟩ := hI.t1 t
    obtain ⟨e, he, hE⟩ := hY.at h1
    rw [he]
    show ∃ a', sx_if (Nat.beq e.1 e.2.1) (sx_fo _ K) (K a) = K a' ∧ _
    cases hb : Nat.beq e.1 e.2.1 with
    | false => rw [sx_if_f]; exact ⟨a, rfl, hI⟩
    | true =>
      rw [sx_if_t, sx_fo_eq]
      refine ⟨_, rfl, ?_⟩
      have hz : Nat.sub (Nat.add e.1 (ax_o a)) 8589934592 = z := by
        show e.1 + ax_o a - 8589934592 = z
        have := hE.1.1
        have := hE.1.2
        have := sx_beq hb
        omega
      rw [hz]
      exact ax_J.num hI.1
theorem ax_Yk.set (h : ax_Yk ρ Y n) {k r lo hi : Nat} {e : ax_E} (hk : ρ[k]? = some r) (he : ax_at Y n k = some e) (h1 : lo ≤ r) (h2 : r ≤ hi) : ax_Yk ρ (Y.set (n - 1 - k) (lo, hi, e.2.2)) n := by
  rw [ax_at_eq] at he
  refine ⟨h.1, by rw [List.length_set]; exact h.2.1, fun j s e' hj he' => ?_⟩
  have hl := (List.getElem?_eq_some_iff.mp hk).1
  have hlj := (List.getElem?_eq_some_iff.mp hj).1
  by_cases hjk : j = k
  · subst hjk
    cases hk.symm.trans hj
    rw [List.getElem?_set_self (List.getElem?_eq_some_iff.mp he).1] at he'
    cases he'
    exact ⟨⟨h1, h2⟩, (h.2.2 j r e hk he).2⟩
  · have := h.1
    rw [List.getElem?_set_ne (by omega)] at he'
    exact h.2.2 j s e' hj he'
theorem ax_rf_ok {k r lo hi : Nat} {K : ax_Y → ax_R} {outs : List ax_O} (h : ax_rf Y n k lo hi K = some outs) (hY : ax_Yk ρ Y n) (hk : ρ[k]? = some r) (h1 : lo ≤ r) (h2 : r ≤ hi) : ∃ Y', K Y' = some outs ∧ ax_Yk ρ Y' n := by
  unfold ax_rf at h
  obtain ⟨e, he, hE⟩ := hY.at hk
  rw [he] at h
  have h : sx_fo (sx_mx e.1 lo) (fun lo => sx_fo (sx_mn e.2.1 hi) (fun hi => sx_if (Nat.ble lo hi) (sx_stK (lo, hi, e.2.2) Y (Nat.sub (Nat.pred n) k) K) (some []))) = some outs := h
  rw [sx_fo_eq, sx_fo_eq, sx_stK_eq] at h
  have a1 : sx_mx e.1 lo ≤ r := by
    unfold sx_mx
    rw [sx_if_eq]
    split
    · exact h1
    · exact hE.1.1
  have a2 : r ≤ sx_mn e.2.1 hi := by
    unfold sx_mn
    rw [sx_if_eq]
    split
    · exact hE.1.2
    · exact h2
  rw [show Nat.ble (sx_mx e.1 lo) (sx_mn e.2.1 hi) = true from Nat.ble_eq.mpr (Nat.le_trans a1 a2), sx_if_t] at h
  exact ⟨_, h, hY.set hk he a1 a2⟩
theorem ax_r1_ok {lo hi : Nat} {K : ax_Y → ax_R} {outs : List ax_O} (h : ax_r1 Y n a lo hi K = some outs) (hY : ax_Yk ρ Y n) (hI : ax_J ρ a z) (h1 : lo ≤ z) (h2 : z ≤ hi) : ∃ Y', K Y' = some outs ∧ ax_Yk ρ Y' n := by
  unfold ax_r1 at h
  rcases hI.tag with t | t
  · rw [sx_beq_t (show sx_tg a = 0 from t), sx_if_t, sx_fo_eq] at h
    have e : sx_bs (sx_pl a) = z := (hI.t0 t).1.symm
    rw [e, show sx_and (Nat.ble lo z) (Nat.ble z hi) = true by rw [show Nat.ble lo z = true from Nat.ble_eq.mpr h1, show Nat.ble z hi = true from Nat.ble_eq.mpr h2]; rfl, sx_if_t] at h
    exact ⟨Y, h, hY⟩
  · rw [sx_beq_e (show ¬ sx_tg a = 0 by show ¬ a % 8 = 0; omega), sx_if_f, sx_beq_t (show sx_tg a = 1 from t), sx_if_t] at h
    obtain ⟨r, r1, r2⟩ := hI.t1 t
    refine ax_rf_ok h hY r1 ?_ ?_
    · show lo + 8589934592 - ax_o a ≤ r
      omega
    · show r ≤ hi + 8589934592 - ax_o a
      omega
theorem ax_rv_ok {lo hi : Nat} {K : ax_Y → ax_R} {outs : List ax_O} (h : ax_rv Y n a lo hi K = some outs) (hY : ax_Yk ρ Y n) (hI : ax_J ρ a z) (h1 : lo ≤ z) (h2 : z ≤ hi) : ∃ Y', K Y' = some outs ∧ ax_Yk ρ Y' n := by
  unfold ax_rv at h
  obtain ⟨Y1, h, hY1⟩ := ax_r1_ok h hY hI h1 h2
  rcases hI.tag with t | t
  · rw [sx_beq_e (show ¬ sx_tg a = 1 by show ¬ a % 8 = 1; omega), sx_if_f] at h
    exact ⟨Y1, h, hY1⟩
  · rw [sx_beq_t (show sx_tg a = 1 from t), sx_if_t] at h
    obtain ⟨r, r1, r2⟩ := hI.t1 t
    obtain ⟨e, he, hE⟩ := hY1.at r1
    rw [he] at h
    obtain ⟨⟨b1, b2⟩, -, -, s1, s2, -⟩ := hE
    cases c2 : Nat.beq e.2.2.2.1 2 with
    | true =>
      obtain ⟨x, y, ix, iy, e1⟩ := s2 (sx_beq c2)
      have h : sx_if (Nat.beq e.2.2.2.1 2) _ _ = some outs := h
      rw [c2, sx_if_t] at h
      obtain ⟨bl, bh, g, g1, g2⟩ := ax_rg_ok (df := none) (K := fun bl bh => ax_r1 Y1 n e.2.2.2.2.2 (Nat.sub (Nat.add bl 2147483648) e.2.1) (Nat.sub (Nat.add bh 2147483648) e.1) (fun Y => ax_rg none Y n e.2.2.2.2.2 (fun fl fh => ax_r1 Y n e.2.2.2.2.1 (Nat.sub (Nat.add fl e.1) 2147483648) (Nat.sub (Nat.add fh e.2.1) 2147483648) K))) hY1 ix
      rw [g] at h
      obtain ⟨Y2, h, hY2⟩ := ax_r1_ok h hY1 iy (by show bl + 2147483648 - e.2.1 ≤ y; omega) (by show y ≤ bh + 2147483648 - e.1; omega)
      obtain ⟨fl, fh, g, g3, g4⟩ := ax_rg_ok (df := none) (K := fun fl fh => ax_r1 Y2 n e.2.2.2.2.1 (Nat.sub (Nat.add fl e.1) 2147483648) (Nat.sub (Nat.add fh e.2.1) 2147483648) K) hY2 iy
      rw [g] at h
      exact ax_r1_ok h hY2 ix (by show fl + e.1 - 2147483648 ≤ x; omega) (by show x ≤ fh + e.2.1 - 2147483648; omega)
    | false =>
      have h : sx_if (Nat.beq e.2.2.2.1 2) _ _ = some outs := h
      rw [c2, sx_if_f] at h
      cases c1 : Nat.beq e.2.2.2.1 1 with
      | false => rw [c1, sx_if_f] at h; exact ⟨Y1, h, hY1⟩
      | true =>
        rw [c1, sx_if_t] at h
        obtain ⟨x, y, ix, iy, e1⟩ := s1 (sx_beq c1)
        obtain ⟨bl, bh, g, g1, g2⟩ := ax_rg_ok (df := none) (K := fun bl bh => ax_r1 Y1 n e.2.2.2.2.2 (Nat.sub (Nat.add e.1 2147483648) bh) (Nat.sub (Nat.add e.2.1 2147483648) bl) (fun Y => ax_rg none Y n e.2.2.2.2.2 (fun fl fh => ax_r1 Y n e.2.2.2.2.1 (Nat.sub (Nat.add e.1 2147483648) fh) (Nat.sub (Nat.add e.2.1 2147483648) fl) K))) hY1 ix
        rw [g] at h
        obtain ⟨Y2, h, hY2⟩ := ax_r1_ok h hY1 iy (by show e.1 + 2147483648 - bh ≤ y; omega) (by show y ≤ e.2.1 + 2147483648 - bl; omega)
        obtain ⟨fl, fh, g, g3, g4⟩ := ax_rg_ok (df := none) (K := fun fl fh => ax_r1 Y2 n e.2.2.2.2.1 (Nat.sub (Nat.add e.1 2147483648) fh) (Nat.sub (Nat.add e.2.1 2147483648) fl) K) hY2 iy
        rw [g] at h
        exact ax_r1_ok h hY2 ix (by show e.1 + 2147483648 - fh ≤ x; omega) (by show x ≤ e.2.1 + 2147483648 - fl; omega)
end AXNum
