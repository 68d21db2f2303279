/-! ax: sums, products, bits -/
section AXBin
variable {ρ : List Nat} {Y : ax_Y} {n : Nat} {F : ax_F} {a z r : Nat} {outs : List ax_O} {K : Nat → ax_Y → Nat → ax_R} {P Q : Int32}
theorem ax_i_eq (P : Int32) : sx_i P = 8 * P.toBitVec.toNat := rfl
theorem ax_bs_b (P : Int32) : sx_bs (sx_b P) = P.toBitVec.toNat := by
  have := P.toBitVec.isLt
  rw [ax_bs_eq, ax_b_tn]; omega
theorem ax_i_bs (P : Int32) : sx_i P = 8 * sx_bs (sx_b P) := by rw [ax_bs_b]; rfl
theorem ax_J.i (P : Int32) : ax_J ρ (sx_i P) (sx_b P) := by rw [ax_i_bs]; exact ax_J.num (sx_b_lt P)
theorem ax_J.i0 (h : ax_J ρ a (sx_b P)) (h0 : a % 8 = 0) : a = sx_i P ∧ Int32.ofNat (a / 8) = P := by
  obtain ⟨h1, h2⟩ := h.t0 h0
  have e : sx_b (Int32.ofNat (a / 8)) = sx_b P := by rw [sx_b_ofNat]; exact h1.symm
  have e := sx_b_inj e
  refine ⟨?_, e⟩
  rw [ax_i_eq, ← e, ax_on_tn (by omega)]
  omega
/-- K goes on with some v that is r -/
def ax_Got (ρ : List Nat) (outs : List ax_O) (K : Nat → ax_Y → Nat → ax_R) (r : Nat) : Prop := ∃ ρ' v Y' n' outs', K v Y' n' = some outs' ∧ (∀ o ∈ outs', o ∈ outs) ∧ ρ <+: ρ' ∧ ax_Yk ρ' Y' n' ∧ ax_J ρ' v r
theorem ax_Got.here {v : Nat} (h : K v Y n = some outs) (hY : ax_Yk ρ Y n) (hJ : ax_J ρ v r) : ax_Got ρ outs K r := ⟨ρ, v, Y, n, outs, h, fun _ h => h, List.prefix_rfl, hY, hJ⟩
theorem ax_Got.sub {o1 : List ax_O} (h : ax_Got ρ o1 K r) (hs : ∀ o ∈ o1, o ∈ outs) : ax_Got ρ outs K r := by
  obtain ⟨ρ', v, Y', n', o', h1, h2, h3⟩ := h
  exact ⟨ρ', v, Y', n', o', h1, fun o ho => hs o (h2 o ho), h3⟩
theorem ax_Got.any (h : ax_any Y n K = some outs) (hY : ax_Yk ρ Y n) (hr : r < 4294967296) : ax_Got ρ outs K r := by
  obtain ⟨v, Y', n', h1, h2, h3⟩ := ax_any_ok h hY hr
  exact ⟨_, v, Y', n', outs, h1, fun _ h => h, List.prefix_append _ _, h2, h3⟩
theorem ax_if {c : Bool} {a b : ax_R} (h : sx_if c a b = some outs) : (c = true ∧ a = some outs) ∨ (c = false ∧ b = some outs) := by
  cases c with
  | true => exact Or.inl ⟨rfl, h⟩
  | false => exact Or.inr ⟨rfl, h⟩
theorem ax_if0 {c : Bool} {a : ax_R} (h : sx_if c a none = some outs) : c = true ∧ a = some outs := by
  rcases ax_if h with h | ⟨-, h⟩
  · exact h
  · cases h
theorem ax_fd_ok {op x y k : Nat} : ∀ {Y : ax_Y} {n : Nat}, Y.length = n → ax_fd Y n op x y = some k → k < n ∧ ∃ e, Y[n - 1 - k]? = some e ∧ e.2.2.2.1 = op ∧ e.2.2.2.2.1 = x ∧ e.2.2.2.2.2 = y
  | [], _, _, h => by cases h
  | e :: Y, n, hl, h => by
    have h : sx_if (sx_and (Nat.beq e.2.2.2.1 op) (sx_and (Nat.beq e.2.2.2.2.1 x) (Nat.beq e.2.2.2.2.2 y))) (some (Nat.pred n)) (ax_fd Y (Nat.pred n) op x y) = some k := h
    have hl : Y.length + 1 = n := hl
    cases hc : sx_and (Nat.beq e.2.2.2.1 op) (sx_and (Nat.beq e.2.2.2.2.1 x) (Nat.beq e.2.2.2.2.2 y)) with
    | true =>
      rw [hc, sx_if_t] at h
      cases h
      obtain ⟨h1, h2⟩ := sx_and_ok hc
      obtain ⟨h2, h3⟩ := sx_and_ok h2
      refine ⟨by show n - 1 < n; omega, e, ?_, sx_beq h1, sx_beq h2, sx_beq h3⟩
      show (e :: Y)[n - 1 - (n - 1)]? = some e
      rw [Nat.sub_self]
      rfl
    | false =>
      rw [hc, sx_if_f] at h
      obtain ⟨h1, e', h2, h3⟩ := ax_fd_ok (n := n - 1) (by omega) h
      refine ⟨by omega, e', ?_, h3⟩
      rw [show n - 1 - k = (n - 1 - 1 - k) + 1 by omega, List.getElem?_cons_succ]
      exact h2
theorem ax_sym_k (k : Nat) (hk : k < 65536) (h : ρ[k]? = some r) (hr : r < 4294967296) : ax_J ρ (ax_sym k) r := by
  have e : ax_sym k = 8 * (k + 562949953421312) + 1 := rfl
  refine ⟨hr, Or.inr ⟨by rw [e]; omega, r, ?_, ?_⟩⟩
  · rw [ax_k_eq, e, show (8 * (k + 562949953421312) + 1) / 8 % 65536 = k by omega]; exact h
  · rw [ax_o_eq, e]; omega
theorem ax_fn_ok {lo hi op x y : Nat} (h : ax_fn Y n lo hi op x y K = some outs) (hY : ax_Yk ρ Y n) (hE : ax_En ρ r (lo, hi, 0, op, x, y)) (hu : ∀ r' e, ax_En ρ r' e → op ≠ 0 → e.2.2.2.1 = op → e.2.2.2.2.1 = x → e.2.2.2.2.2 = y → r' = r) : ax_Got ρ outs K r := by
  unfold ax_fn at h
  rcases ax_if h with ⟨c, h⟩ | ⟨-, h⟩
  · have c := sx_beq c
    have h1 : lo ≤ r := hE.1.1
    have h2 : r ≤ hi := hE.1.2
    have e : lo = r := by omega
    rw [sx_fo_eq] at h
    refine ax_Got.here h hY ?_
    rw [e]
    exact ax_J.num hE.2.1
  · rcases ax_if h with ⟨c, h⟩ | ⟨c, h⟩
    · obtain ⟨v, h1, h2, h3⟩ := ax_fr_ok h hY (ax_En.plain hE.1.1 hE.1.2 hE.2.1)
      exact ⟨_, v, _, _, outs, h1, fun _ h => h, List.prefix_append _ _, h2, h3⟩
    · have c := sx_beq_f c
      cases hf : ax_fd Y n op x y with
      | none =>
        rw [hf] at h
        obtain ⟨v, h1, h2, h3⟩ := ax_fr_ok h hY hE
        exact ⟨_, v, _, _, outs, h1, fun _ h => h, List.prefix_append _ _, h2, h3⟩
      | some k =>
        rw [hf] at h
        obtain ⟨hk6, h⟩ := ax_if0 (c := Nat.blt k 65536) (a := sx_fo (ax_sym k) (fun v => K v Y n)) h
        rw [sx_fo_eq] at h
        obtain ⟨hk, e, he, e1, e2, e3⟩ := ax_fd_ok hY.2.1 hf
        have hl : k < ρ.length := by rw [hY.1]; exact hk
        have hE' := hY.2.2 k ρ[k] e (List.getElem?_eq_getElem hl) he
        have hr := hu _ _ hE' c e1 e2 e3
        refine ax_Got.here h hY (ax_sym_k k (sx_blt hk6) ?_ hE.2.1)
        rw [List.getElem?_eq_getElem hl, hr]
theorem ax_fn_plain {lo hi : Nat} (h : ax_fn Y n lo hi 0 0 0 K = some outs) (hY : ax_Yk ρ Y n) (h1 : lo ≤ r) (h2 : r ≤ hi) (h3 : r < 4294967296) : ax_Got ρ outs K r :=
  ax_fn_ok h hY (ax_En.plain h1 h2 h3) (fun _ _ _ q => absurd rfl q)
theorem ax_rg_h0 {G : Nat → Nat → ax_R} {d o : ax_R} (h : ax_rg d Y n a G = o) (hY : ax_Yk ρ Y n) (hI : ax_J ρ a z) : ∃ lo hi, G lo hi = o ∧ lo ≤ z ∧ z ≤ hi ∧ (a % 8 = 0 → lo = z ∧ hi = z) := by
  rcases hI.tag with t | t
  · unfold ax_rg at h
    rw [sx_beq_t (show sx_tg a = 0 from t), sx_if_t, sx_fo_eq] at h
    have e : sx_bs (sx_pl a) = z := (hI.t0 t).1.symm
    rw [e] at h
    exact ⟨z, z, h, Nat.le_refl _, Nat.le_refl _, fun _ => ⟨rfl, rfl⟩⟩
  · obtain ⟨lo, hi, h1, h2, h3⟩ := ax_rg_h h hY hI
    exact ⟨lo, hi, h1, h2, h3, fun q => by omega⟩
theorem ax_en_aux {f : Nat → ax_R} {i : Nat} : ∀ {m : Nat} {outs : List ax_O}, (Nat.rec (some []) (fun i ih => ax_app ih (f i)) m : ax_R) = some outs → i < m → ∃ o', f i = some o' ∧ ∀ o ∈ o', o ∈ outs
  | 0, _, _, hi => by omega
  | m + 1, outs, h, hi => by
    obtain ⟨o1, o2, h1, h2, rfl⟩ := ax_app_ok (a := (Nat.rec (some []) (fun i ih => ax_app ih (f i)) m : ax_R)) (b := f m) h
    by_cases e : i = m
    · subst e; exact ⟨o2, h2, fun o ho => List.mem_append_right _ ho⟩
    · obtain ⟨o', h3, h4⟩ := ax_en_aux (i := i) (m := m) (outs := o1) h1 (by omega)
      exact ⟨o', h3, fun o ho => List.mem_append_left _ (h4 o ho)⟩
theorem ax_en_ok {m : Nat} {G : Nat → ax_Y → ax_R} (h : ax_en Y n a m G = some outs) (hY : ax_Yk ρ Y n) (hI : ax_J ρ a z) : ∃ Y' outs', G z Y' = some outs' ∧ (∀ o ∈ outs', o ∈ outs) ∧ ax_Yk ρ Y' n := by
  unfold ax_en at h
  obtain ⟨lo, hi, h, h1, h2⟩ := ax_rg_h h hY hI
  obtain ⟨-, h⟩ := ax_if0 h
  obtain ⟨o', h3, h4⟩ := ax_en_aux (i := z - lo) h (by show z - lo < hi + 1 - lo; omega)
  rw [sx_fo_eq, show Nat.add lo (z - lo) = z by show lo + (z - lo) = z; omega] at h3
  obtain ⟨Y', h5, h6⟩ := ax_rv_ok h3 hY hI (Nat.le_refl _) (Nat.le_refl _)
  exact ⟨Y', o', h5, h4, h6⟩
theorem ax_mk_ok {α : Type} {df : α} {x : Nat} {G : Nat → Nat → Nat → α} (hY : ax_Yk ρ Y n) (hI : ax_J ρ x z) : ax_mk df Y n x G = df ∨ ∃ e, ax_mk df Y n x G = G e.2.2.2.1 e.2.2.2.2.1 e.2.2.2.2.2 ∧ ax_En ρ z e := by
  unfold ax_mk
  cases hc : sx_and (Nat.beq (sx_tg x) 1) (Nat.beq (ax_o x) 8589934592) with
  | false => exact Or.inl rfl
  | true =>
    obtain ⟨c1, c2⟩ := sx_and_ok hc
    have c1 : x % 8 = 1 := sx_beq c1
    have c2 := sx_beq c2
    obtain ⟨r, h1, h2⟩ := hI.t1 c1
    obtain ⟨e, h3, h4⟩ := hY.at h1
    have e0 : z = r := by omega
    subst e0
    rw [h3]
    exact Or.inr ⟨e, rfl, h4⟩
theorem ax_sub_ok {x b : Nat} : ∀ {Y : ax_Y}, ax_sub Y x b = true → ∃ e ∈ Y, e.2.2.2.1 = 3 ∧ e.2.2.2.2.1 = b ∧ e.2.2.2.2.2 = x ∧ e.1 = 2147483648 ∧ e.2.1 = 2147483648
  | [], h => by cases h
  | e :: Y, h => by
    have h : sx_if (sx_and (Nat.beq e.2.2.2.1 3) (sx_and (Nat.beq e.2.2.2.2.1 b) (sx_and (Nat.beq e.2.2.2.2.2 x) (sx_and (Nat.beq e.1 2147483648) (Nat.beq e.2.1 2147483648))))) true (ax_sub Y x b) = true := h
    cases hc : sx_and (Nat.beq e.2.2.2.1 3) (sx_and (Nat.beq e.2.2.2.2.1 b) (sx_and (Nat.beq e.2.2.2.2.2 x) (sx_and (Nat.beq e.1 2147483648) (Nat.beq e.2.1 2147483648)))) with
    | true =>
      obtain ⟨h1, h2⟩ := sx_and_ok hc
      obtain ⟨h2, h3⟩ := sx_and_ok h2
      obtain ⟨h3, h4⟩ := sx_and_ok h3
      obtain ⟨h4, h5⟩ := sx_and_ok h4
      exact ⟨e, List.mem_cons_self, sx_beq h1, sx_beq h2, sx_beq h3, sx_beq h4, sx_beq h5⟩
    | false =>
      rw [hc, sx_if_f] at h
      obtain ⟨e', h1, h2⟩ := ax_sub_ok h
      exact ⟨e', List.mem_cons_of_mem _ h1, h2⟩
theorem ax_pc_le {A B : Nat} (hA : A < 4294967296) (h : B &&& (4294967295 - A) = 0) : ax_pc B ≤ ax_pc A := by
  have hb : ∀ i, i < 32 → B / 2 ^ i % 2 ≤ A / 2 ^ i % 2 := fun i hi => by
    rw [← Nat.toNat_testBit, ← Nat.toNat_testBit]
    have h1 : (B &&& (4294967295 - A)).testBit i = false := by rw [h]; exact Nat.zero_testBit i
    rw [Nat.testBit_and, show 4294967295 - A = 2 ^ 32 - (A + 1) by omega, Nat.testBit_two_pow_sub_succ (show A < 2 ^ 32 by omega)] at h1
    cases hB : B.testBit i <;> cases hA : A.testBit i <;> simp_all
  have h0 : B % 2 ≤ A % 2 := by have := hb 0 (by decide); rwa [Nat.pow_zero, Nat.div_one, Nat.div_one] at this
  exact Nat.add_le_add (Nat.add_le_add (Nat.add_le_add (Nat.add_le_add (Nat.add_le_add (Nat.add_le_add (Nat.add_le_add h0 (hb 1 (by decide))) (hb 2 (by decide))) (hb 3 (by decide))) (hb 4 (by decide))) (hb 5 (by decide))) (hb 6 (by decide))) (hb 7 (by decide))
theorem ax_bk_ok {o x y : Nat} {G : Nat → ax_R} (h : ax_bk o x y G = some outs) : ∃ v, G v = some outs ∧ v = sx_i (sx_bf o (Int32.ofNat x) (Int32.ofNat y)) ∧ (9 ≤ o → ¬ Int32.ofNat y = 0) := by
  unfold ax_bk at h
  rcases ax_if h with ⟨c, h⟩ | ⟨c, h⟩
  · have c := sx_beq c
    subst c
    rw [sx_fo_eq] at h
    refine ⟨_, h, ?_, fun q => by omega⟩
    show 8 * ((x + y) % 4294967296) = sx_i (Int32.ofNat x + Int32.ofNat y)
    rw [← Int32.ofNat_add, ax_i_eq]
    show _ = 8 * (BitVec.ofNat 32 (x + y)).toNat
    rw [BitVec.toNat_ofNat]
  · rcases ax_if h with ⟨c9, h⟩ | ⟨c9, h⟩
    · rcases ax_if h with ⟨-, h⟩ | ⟨cz, h⟩
      · cases h
      · rw [sx_fo_eq] at h
        refine ⟨_, h, rfl, fun _ q => ?_⟩
        have h2 : sx_b (Int32.ofNat y) = sx_b 0 := by rw [q]
        rw [sx_b_ofNat, sx_bs_eq, show sx_b 0 = 2147483648 from rfl] at h2
        have h3 : ¬ y % 4294967296 = 0 := sx_beq_f cz
        omega
    · rw [sx_fo_eq] at h
      exact ⟨_, h, rfl, fun q => absurd (sx_ble_f c9) (by omega)⟩
end AXBin
