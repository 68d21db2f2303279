/-! fx: from walks to contracts -/
theorem fI_inj {y z : Int} (hy : fR y) (hz : fR z) (h : fI y = fI z) : y = z := by
  unfold fI at h
  unfold fR at hy hz
  omega
theorem fI_pos {z : Int} (h0 : 0 ≤ z) (h1 : z < 4294967296) : fI z = 8 * z.toNat := by
  unfold fI
  omega
theorem HV_a {h : sx_H} {g : Nat → Nat → Int} (q : HV h g) {c : Nat} (len : Nat) (hk : f_al c len = true) {j : Nat} (hj : j < len) : sx_get (sx_rd h c).2 j = fI (g c j) ∧ fR (g c j) := by
  obtain ⟨q1, q2⟩ := f_and hk
  obtain ⟨q2, q3⟩ := f_and q2
  have q3 : (ax_cl c).1 / 256 = len := sx_beq q3
  have i := (f_okp (j := j) (sx_blt q1) (sx_beq q2)).1
  obtain ⟨e1, e2, -⟩ := q.2 c j (sx_blt q1) (by omega)
  refine ⟨?_, e2 i⟩
  rw [e1]
  unfold fEnc
  rw [if_pos i]
theorem HV_f {h : sx_H} {g : Nat → Nat → Int} (q : HV h g) (c j : Nat) (hk : (Nat.blt c 160 && (Nat.blt j (Nat.div (ax_cl c).1 256) && fInt c j)) = true) : sx_get (sx_rd h c).2 j = fI (g c j) ∧ fR (g c j) := by
  obtain ⟨q1, q2⟩ := f_and hk
  obtain ⟨q2, q3⟩ := f_and q2
  obtain ⟨e1, e2, -⟩ := q.2 c j (sx_blt q1) (sx_blt q2)
  refine ⟨?_, e2 q3⟩
  rw [e1]
  unfold fEnc
  rw [if_pos q3]
theorem fI_eq_iff {y z : Int} (hy : fR y) (hz : fR z) : fI y = fI z ↔ y = z := ⟨fI_inj hy hz, fun e => by rw [e]⟩
theorem gxh_iff {h : sx_H} {g : Nat → Nat → Int} (q : HV h g) {a b : Nat} (ab : (a = 3 ∧ b = 149) ∨ (a = 56 ∧ b = 150)) (hd0 : 0 ≤ g a 5) (hd1 : g a 5 ≤ 6) : gx_h h a b ↔ gxh g a b := by
  have F : ∀ j, 4 ≤ j → j ≤ 6 → sx_get (sx_rd h a).2 j = fI (g a j) ∧ fR (g a j) := fun j h1 h2 => by
    rcases ab with ⟨rfl, -⟩ | ⟨rfl, -⟩ <;> rcases (by omega : j = 4 ∨ j = 5 ∨ j = 6) with rfl | rfl | rfl <;> exact HV_f q _ _ (by decide +kernel)
  have M : ∀ j, j < 764 → sx_get (sx_rd h b).2 j = fI (g b j) ∧ fR (g b j) := fun j hj => by
    rcases ab with ⟨-, rfl⟩ | ⟨-, rfl⟩ <;> exact HV_a q 764 (by decide +kernel) hj
  have E1 : ∀ j, j < 48 → sx_get (sx_rd h (a + 3)).2 j = fI (g (a + 3) j) ∧ fR (g (a + 3) j) := fun j hj => by
    rcases ab with ⟨rfl, -⟩ | ⟨rfl, -⟩ <;> exact HV_a q 48 (by decide +kernel) hj
  have E2 : ∀ j, j < 8 → sx_get (sx_rd h (a + 4)).2 j = fI (g (a + 4) j) ∧ fR (g (a + 4) j) := fun j hj => by
    rcases ab with ⟨rfl, -⟩ | ⟨rfl, -⟩ <;> exact HV_a q 8 (by decide +kernel) hj
  have f4 := F 4 (by decide) (by decide)
  have f5 := F 5 (by decide) (by decide)
  have f6 := F 6 (by decide) (by decide)
  have m0 := M 0 (by decide)
  have m3 := M 3 (by decide)
  have m4 := M 4 (by decide)
  have e5 := fI_pos hd0 (by omega)
  have e6 : fI (g a 6) ≤ 96 ↔ 0 ≤ g a 6 ∧ g a 6 ≤ 12 := by
    have t := f6.2
    unfold fR at t
    unfold fI
    omega
  unfold gx_h gxh
  rw [f4.1, f5.1, f6.1, m0.1, m3.1, m4.1, fI_eq_iff f4.2 m3.2, fI_eq_iff f5.2 m4.2, fI_eq_iff f6.2 m0.2, e5]
  constructor
  · rintro ⟨k1, k2, k3, k4, k5, k6⟩
    refine ⟨k1, k2, k3, fun j j1 j2 => ?_, fun j j1 => ?_, e6.mp k6⟩
    · have := k4 j j1 (by omega)
      rw [(E1 j j1).1, (M _ (by omega)).1] at this
      exact fI_inj (E1 j j1).2 (M _ (by omega)).2 this
    · have := k5 j j1
      rw [(E2 j j1).1, (M _ (by omega)).1] at this
      exact fI_inj (E2 j j1).2 (M _ (by omega)).2 this
  · rintro ⟨k1, k2, k3, k4, k5, k6⟩
    refine ⟨k1, k2, k3, fun j j1 j2 => ?_, fun j j1 => ?_, e6.mpr k6⟩
    · rw [(E1 j j1).1, (M _ (by omega)).1, k4 j j1 (by omega)]
    · rw [(E2 j j1).1, (M _ (by omega)).1, k5 j j1]
/-- bounds of what is kept -/
def gxb (g : Nat → Nat → Int) : Prop := 0 ≤ g 3 5 ∧ g 3 5 ≤ 6 ∧ 0 ≤ g 56 5 ∧ g 56 5 ≤ 6 ∧ 0 ≤ g 148 6 ∧ g 148 6 ≤ 12
theorem gx_iff {h : sx_H} {g : Nat → Nat → Int} (q : HV h g) (b : gxb g) : gx h ↔ gxg g := by
  obtain ⟨b1, b2, b3, b4, b5, b6⟩ := b
  have A := HV_f q 148 6 (by decide +kernel)
  have eA := fI_pos b5 (by omega)
  have t1 : ∀ j, j < 400 → sx_get (sx_rd h 2).2 j = fI (g 2 j) ∧ fR (g 2 j) := fun j hj => HV_a q 400 (by decide +kernel) hj
  have t2 : ∀ j, j < 400 → sx_get (sx_rd h 153).2 j = fI (g 153 j) ∧ fR (g 153 j) := fun j hj => HV_a q 400 (by decide +kernel) hj
  have t3 : ∀ j, j < 764 → sx_get (sx_rd h 149).2 j = fI (g 149 j) ∧ fR (g 149 j) := fun j hj => HV_a q 764 (by decide +kernel) hj
  have t4 : ∀ j, j < 4368 → sx_get (sx_rd h 152).2 j = fI (g 152 j) ∧ fR (g 152 j) := fun j hj => HV_a q 4368 (by decide +kernel) hj
  have kP : ∀ k, gx_P k → k < 364 := fun k hk => by unfold gx_P at hk; omega
  unfold gx gxg gxa
  rw [gxh_iff q (Or.inl ⟨rfl, rfl⟩) b1 b2, gxh_iff q (Or.inr ⟨rfl, rfl⟩) b3 b4, A.1, eA]
  constructor
  · rintro ⟨k1, k2, k3, k4⟩
    refine ⟨fun j hj => ?_, k2, k3, fun r k h1 h2 h3 => ?_⟩
    · have := k1 j hj
      rw [(t1 j hj).1, (t2 j hj).1] at this
      exact fI_inj (t1 j hj).2 (t2 j hj).2 this
    · have := kP k h3
      have e := k4 r k (by omega) h2 h3
      rw [(t4 _ (by omega)).1, (t3 _ (by omega)).1] at e
      exact fI_inj (t4 _ (by omega)).2 (t3 _ (by omega)).2 e
  · rintro ⟨k1, k2, k3, k4⟩
    refine ⟨fun j hj => ?_, k2, k3, fun r k h1 h2 h3 => ?_⟩
    · rw [(t1 j hj).1, (t2 j hj).1, k1 j hj]
    · have := kP k h3
      rw [(t4 _ (by omega)).1, (t3 _ (by omega)).1, k4 r k (by omega) h2 h3]
/-- an int place within its bounds -/
theorem Hs_b {h : sx_H} {g : Nat → Nat → Int} (q : ax_Hs h) (v : HV h g) (c j : Nat) (lo hi : Int) (hk : (Nat.blt c 160 && (Nat.blt j (Nat.div (ax_cl c).1 256) && fInt c j)) = true) (s : ax_S) (hs : ax_sg (ax_cl c).2.2 (j % (ax_cl c).2.1) (j % (ax_cl c).2.1) = some s) (h0 : s.2.1 = 0) (hl : lo + 2147483648 = s.2.2.1) (hh : hi + 2147483648 = s.2.2.2.1) : lo ≤ g c j ∧ g c j ≤ hi := by
  obtain ⟨e1, e2⟩ := HV_f v c j hk
  obtain ⟨q1, q2⟩ := f_and hk
  obtain ⟨q2, -⟩ := f_and q2
  obtain ⟨s', e3, e4⟩ := q.pk c j (sx_blt q1) (sx_blt q2)
  rw [hs] at e3
  cases e3
  rcases e4 with ⟨-, P, k1, k2, k3⟩ | ⟨k, -⟩ | ⟨k, -⟩ | ⟨k, -⟩ | ⟨k, -⟩
  · rw [e1, fI_eq] at k1
    have e : Int32.ofInt (g c j) = P := by
      have t1 := (sx_i_ok (Int32.ofInt (g c j))).2
      rw [k1, (sx_i_ok P).2] at t1
      exact t1.symm
    have eb := fI_b e2
    rw [e] at eb
    omega
  · omega
  · omega
  · omega
  · omega
theorem Hs_gxb {h : sx_H} {g : Nat → Nat → Int} (q : ax_Hs h) (v : HV h g) : gxb g := by
  obtain ⟨a1, a2⟩ := Hs_b q v 3 5 0 6 (by decide +kernel) (6, 0, 2147483648, 2147483654, 0, 0) (by decide +kernel) rfl rfl rfl
  obtain ⟨a3, a4⟩ := Hs_b q v 56 5 0 6 (by decide +kernel) (6, 0, 2147483648, 2147483654, 0, 0) (by decide +kernel) rfl rfl rfl
  obtain ⟨a5, a6⟩ := Hs_b q v 148 6 0 12 (by decide +kernel) (7, 0, 2147483648, 2147483660, 0, 0) (by decide +kernel) rfl rfl rfl
  exact ⟨a1, a2, a3, a4, a5, a6⟩
theorem cx_uniq {W : ax_W} {D mi cd pc : Nat} {L S : List Nat} {h : sx_H} {cs ss : Nat} {o o' : sx_O} (h1 : cx_Ev W D mi cd pc L S h cs ss o) (h2 : cx_Ev W D mi cd pc L S h cs ss o') : o = o' := by
  obtain ⟨f1, e1⟩ := h1
  obtain ⟨f2, e2⟩ := h2
  have a := e1 (f1 + f2) (by omega)
  have b := e2 (f1 + f2) (by omega)
  rw [a] at b
  cases b
  rfl
theorem ax_len32 : ∀ c, c < 160 → ax_ar c = false → (ax_cl c).1 / 256 ≤ 32 := by decide +kernel
theorem ax_As2 {p : Nat} {cav : List Nat} (h : ax_As [(0, p, 0)] cav) (hp : 2 ≤ p % 8 ∧ p % 8 ≤ 6) : cav = [p] := by
  match cav, h with
  | [v], h =>
    obtain ⟨h1, -⟩ := h
    rcases h1 with ⟨-, ρ, hv⟩ | ⟨q, -⟩ | ⟨q, -⟩
    · rw [(hv.toRef hp.1 hp.2).2]
    · exact absurd rfl q
    · exact absurd rfl q
  | [], h => exact h.elim
  | _ :: _ :: _, h => exact h.2.elim
