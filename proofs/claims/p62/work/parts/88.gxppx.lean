/-! px: the cells that the law makes are within their stretches; the law from its first instruction on -/
def sx_z1p : sx_Q sx_C := ((0, 0), (0, 0), (0, 0), (0, 0))
def sx_h0p : sx_H := (((sx_z1p, sx_z1p, sx_z1p, sx_z1p), (sx_z1p, sx_z1p, sx_z1p, sx_z1p), (sx_z1p, sx_z1p, sx_z1p, sx_z1p), (sx_z1p, sx_z1p, sx_z1p, sx_z1p)), ((sx_z1p, sx_z1p, sx_z1p, sx_z1p), (sx_z1p, sx_z1p, sx_z1p, sx_z1p), (sx_z1p, sx_z1p, sx_z1p, sx_z1p), (sx_z1p, sx_z1p, sx_z1p, sx_z1p)), ((sx_z1p, sx_z1p, sx_z1p, sx_z1p), (sx_z1p, sx_z1p, sx_z1p, sx_z1p), (sx_z1p, sx_z1p, sx_z1p, sx_z1p), (sx_z1p, sx_z1p, sx_z1p, sx_z1p)), ((sx_z1p, sx_z1p, sx_z1p, sx_z1p), (sx_z1p, sx_z1p, sx_z1p, sx_z1p), (sx_z1p, sx_z1p, sx_z1p, sx_z1p), (sx_z1p, sx_z1p, sx_z1p, sx_z1p)))
def px_rk (a : Nat) : Bool := Nat.ble 2 (a % 8) && (Nat.ble (a % 8) 6 && (Nat.blt a 4722366482869645213696 && (!Nat.beq (a % 8) 2 || Nat.blt (a / 8) 160)))
def px_in (v lo hi : Nat) : Bool := Nat.beq (v % 8) 0 && (Nat.blt v 34359738368 && (Nat.ble lo (sx_bs (v / 8)) && Nat.ble (sx_bs (v / 8)) hi))
def px_sv (s : ax_S) (v : Nat) : Bool := (Nat.beq s.2.1 0 && px_in v s.2.2.1 s.2.2.2.1) || ((Nat.beq s.2.1 1 && (Nat.beq v s.2.2.1 && px_rk s.2.2.1)) || ((Nat.beq s.2.1 2 && ((Nat.beq v s.2.2.1 || Nat.beq v s.2.2.2.1) && (px_rk s.2.2.1 && px_rk s.2.2.2.1))) || ((Nat.beq s.2.1 3 && Nat.beq (v % 8) 0) || (Nat.beq s.2.1 4 && (px_in v s.2.2.1 s.2.2.2.1 || px_in v s.2.2.2.2.1 s.2.2.2.2.2)))))
theorem px_rk_ok {a : Nat} (h : px_rk a = true) : ax_Rk a := by
  unfold px_rk at h
  simp only [Bool.and_eq_true, Bool.or_eq_true, Bool.not_eq_true'] at h
  obtain ⟨h1, h2, h3, h4⟩ := h
  refine ⟨sx_ble h1, sx_ble h2, sx_blt h3, fun q => ?_⟩
  rcases h4 with h4 | h4
  · exact absurd q (sx_beq_f h4)
  · exact sx_blt h4
theorem px_in_ok {v lo hi : Nat} (h : px_in v lo hi = true) : ∃ P, v = sx_i P ∧ lo ≤ sx_b P ∧ sx_b P ≤ hi := by
  unfold px_in at h
  simp only [Bool.and_eq_true] at h
  obtain ⟨h1, h2, h3, h4⟩ := h
  have h1 : v % 8 = 0 := sx_beq h1
  have h2 : v < 34359738368 := sx_blt h2
  refine ⟨Int32.ofNat (v / 8), ?_, ?_, ?_⟩
  · rw [ax_i_eq, ax_on_tn (by omega)]; omega
  · rw [sx_b_ofNat]; exact sx_ble h3
  · rw [sx_b_ofNat]; exact sx_ble h4
theorem px_sv_ok {s : ax_S} {v : Nat} (h : px_sv s v = true) : ax_Sv s v := by
  unfold px_sv at h
  simp only [Bool.or_eq_true, Bool.and_eq_true] at h
  rcases h with ⟨h1, h2⟩ | ⟨h1, h2, h3⟩ | ⟨h1, h2, h3, h4⟩ | ⟨h1, h2⟩ | ⟨h1, h2⟩
  · exact Or.inl ⟨sx_beq h1, px_in_ok h2⟩
  · exact Or.inr (Or.inl ⟨sx_beq h1, sx_beq h2, px_rk_ok h3⟩)
  · exact Or.inr (Or.inr (Or.inl ⟨sx_beq h1, h2.elim (fun q => Or.inl (sx_beq q)) (fun q => Or.inr (sx_beq q)), px_rk_ok h3, px_rk_ok h4⟩))
  · exact Or.inr (Or.inr (Or.inr (Or.inl ⟨sx_beq h1, sx_beq h2⟩)))
  · refine Or.inr (Or.inr (Or.inr (Or.inr ⟨sx_beq h1, ?_⟩)))
    rcases h2 with h2 | h2
    · obtain ⟨P, e, b⟩ := px_in_ok h2
      exact ⟨P, e, Or.inl b⟩
    · obtain ⟨P, e, b⟩ := px_in_ok h2
      exact ⟨P, e, Or.inr b⟩
noncomputable def px_cell (hd ct : Nat) (c : ax_C0) : Bool := Nat.beq hd c.1 && sx_if (Nat.beq ct 0) (c.2.2.all (fun s => px_sv s 0) && (Nat.blt 0 c.2.1 && c.2.2.any (fun s => Nat.ble c.2.1 s.1))) ((List.range (hd / 256)).all (fun j => Option.rec false (fun s => px_sv s (sx_get ct j)) (ax_sg c.2.2 (j % c.2.1) (j % c.2.1))))
theorem ax_sg_ex {i : Nat} : ∀ {l : List ax_S}, (∃ s ∈ l, i < s.1) → ∃ s, ax_sg l i i = some s
  | [], ⟨s, h, _⟩ => by cases h
  | t :: l, ⟨s, h, hi⟩ => by
    rw [ax_sg_cons]
    by_cases c : i < t.1
    · exact ⟨t, by rw [sx_blt_t c, sx_if_t, sx_if_t]⟩
    · rcases List.mem_cons.mp h with rfl | h
      · exact absurd hi c
      · obtain ⟨s', h'⟩ := ax_sg_ex ⟨s, h, hi⟩
        exact ⟨s', by rw [sx_blt_e c, sx_if_f]; exact h'⟩
theorem px_cell_ok {hd ct c : Nat} (h : px_cell hd ct (ax_cl c) = true) : hd = (ax_cl c).1 ∧ ∀ j, j < (ax_cl c).1 / 256 → ax_Pk c j (sx_get ct j) := by
  unfold px_cell at h
  rw [Bool.and_eq_true] at h
  obtain ⟨h1, h2⟩ := h
  have h1 := sx_beq h1
  refine ⟨h1, fun j hj => ?_⟩
  cases z : Nat.beq ct 0 with
  | true =>
    rw [z, sx_if_t] at h2
    have z := sx_beq z
    subst z
    simp only [Bool.and_eq_true] at h2
    obtain ⟨a1, a2, a3⟩ := h2
    have a2 : 0 < (ax_cl c).2.1 := sx_blt a2
    obtain ⟨s, s1, s2⟩ := List.any_eq_true.mp a3
    have s2 := sx_ble s2
    have lt : j % (ax_cl c).2.1 < (ax_cl c).2.1 := Nat.mod_lt _ a2
    obtain ⟨s', k⟩ := ax_sg_ex ⟨s, s1, Nat.lt_of_lt_of_le lt s2⟩
    have e0 : sx_get 0 j = 0 := by rw [sx_get_eq, Nat.zero_shiftRight]
    rw [e0]
    exact ⟨s', k, px_sv_ok (List.all_eq_true.mp a1 s' (ax_sg_mem k))⟩
  | false =>
    rw [z, sx_if_f] at h2
    have h3 := List.all_eq_true.mp h2 j (List.mem_range.mpr (by rw [h1]; exact hj))
    cases k : ax_sg (ax_cl c).2.2 (j % (ax_cl c).2.1) (j % (ax_cl c).2.1) with
    | none => rw [k] at h3; cases h3
    | some s =>
      rw [k] at h3
      exact ⟨s, k, px_sv_ok h3⟩
noncomputable def px_ib (h : sx_H) (c j lo hi : Nat) : Bool := sx_rdK h c (fun _ ct => Nat.ble lo (sx_get ct j / 8) && Nat.ble (sx_get ct j / 8) hi)
noncomputable def px_im (h : sx_H) (c j : Nat) : Bool := sx_rdK h c (fun _ ct => Nat.beq (sx_get ct j / 8) 4294967295)
noncomputable def px_eq (h : sx_H) (c j c' j' : Nat) : Bool := Nat.beq (sx_rdK h c (fun _ ct => sx_get ct j)) (sx_rdK h c' (fun _ ct => sx_get ct j'))
noncomputable def px_t2 (h : sx_H) : Bool := (List.range 400).all (fun j => px_eq h 2 j 153 j) && ((px_eq h 3 4 149 3 && (px_eq h 3 5 149 4 && (px_eq h 3 6 149 0 && (px_eq h 3 7 149 5 && (px_eq h 3 8 149 6 && px_eq h 3 9 149 7)))))
  && ((List.range 8).all (fun p => (px_eq h (3 + 1) p 149 (14 + 7 * p) && (px_eq h (3 + 2) p 149 (15 + 7 * p) && px_eq h (3 + 4) p 149 (116 + p))) && ((px_eq h (16 + 1) p 149 (12 + 7 * p) && (px_eq h (16 + 2) p 149 (13 + 7 * p) && (px_eq h (16 + 3) p 149 (16 + 7 * p) && px_eq h (16 + 4) p 149 (18 + 7 * p)))) && (px_ib h 149 (17 + 7 * p) 0 0 && (px_ib h 149 (18 + 7 * p) 0 0 && (px_ib h 149 (14 + 7 * p) 0 99 && px_ib h 149 (13 + 7 * p) 0 20)))))
  && ((List.range 48).all (fun j => px_eq h (3 + 3) j 149 (68 + j))
  && ((px_ib h 16 7 0 0 && (px_eq h 16 8 149 8 && (px_eq h 16 9 149 9 && (px_eq h 16 10 149 11 && (px_ib h 16 5 0 59 && (px_ib h 16 6 0 0 && px_ib h 149 10 0 0))))))
  && ((px_ib h 149 7 1 99 && (px_ib h 149 8 0 9999 && px_ib h 149 0 0 12))
  && ((px_ib h 0 16 0 0 && (px_ib h 148 6 0 0 && (px_ib h 0 17 0 11 && px_ib h 0 15 0 0)))
  && ((List.range 400).all (fun k => px_ib h 149 (364 + k) 0 255) && (px_ib h 149 2 0 400 && (px_im h 149 1 && px_im h 8 7)))))))))
theorem px_ib_ok {h : sx_H} {c j lo hi : Nat} (q : px_ib h c j lo hi = true) (hf : fInt c j = true) (hh : hi < 2147483648) : (lo : Int) ≤ fG h c j ∧ fG h c j ≤ (hi : Int) := by
  unfold px_ib at q
  rw [sx_rdK_eq] at q
  obtain ⟨a, b⟩ := f_and q
  have a := sx_ble a
  have b := sx_ble b
  unfold fG fD
  rw [if_pos hf, if_pos (by omega)]
  omega
theorem px_im_ok {h : sx_H} {c j : Nat} (q : px_im h c j = true) (hf : fInt c j = true) : fG h c j = -1 := by
  unfold px_im at q
  rw [sx_rdK_eq] at q
  have q := sx_beq q
  unfold fG fD
  rw [if_pos hf, if_neg (by omega)]
  omega
theorem px_eq_ok {h : sx_H} {c j c' j' : Nat} (q : px_eq h c j c' j' = true) (hf : fInt c j = true) (hf' : fInt c' j' = true) : fG h c j = fG h c' j' := by
  unfold px_eq at q
  rw [sx_rdK_eq, sx_rdK_eq] at q
  have q := sx_beq q
  unfold fG
  rw [if_pos hf, if_pos hf', q]
theorem px_t2_ok {h : sx_H} (hd : fG h 3 5 ≤ 6) (q : px_t2 h = true) (e1 : fG h 1 1 = fG h 148 8) (e2 : fG h 0 15 = fG h 148 3) : LI (fG h) := by
  unfold px_t2 at q
  obtain ⟨q1, q⟩ := f_and q
  obtain ⟨q2, q⟩ := f_and q
  obtain ⟨q3, q⟩ := f_and q
  obtain ⟨q4, q⟩ := f_and q
  obtain ⟨q5, q⟩ := f_and q
  obtain ⟨q6, q⟩ := f_and q
  obtain ⟨q7, q8⟩ := f_and q
  obtain ⟨a3, q2⟩ := f_and q2
  obtain ⟨a4, q2⟩ := f_and q2
  obtain ⟨a0, q2⟩ := f_and q2
  obtain ⟨a5, q2⟩ := f_and q2
  obtain ⟨a6, a7⟩ := f_and q2
  obtain ⟨t7, q5⟩ := f_and q5
  obtain ⟨t8, q5⟩ := f_and q5
  obtain ⟨t9, q5⟩ := f_and q5
  obtain ⟨t10, q5⟩ := f_and q5
  obtain ⟨t5, q5⟩ := f_and q5
  obtain ⟨t6, l10⟩ := f_and q5
  obtain ⟨b7, q6⟩ := f_and q6
  obtain ⟨b8, b0⟩ := f_and q6
  obtain ⟨p0, q7⟩ := f_and q7
  obtain ⟨p1, q7⟩ := f_and q7
  obtain ⟨p2, p3⟩ := f_and q7
  obtain ⟨w0, q8⟩ := f_and q8
  obtain ⟨w2, q8⟩ := f_and q8
  obtain ⟨w1, w7⟩ := f_and q8
  have im : ∀ j, fInt 149 j = true := fun j => (f_okp (by decide) (by decide +kernel)).1
  have ih : ∀ i j, 1 ≤ i → i ≤ 4 → fInt (3 + i) j = true := fun i j i1 i2 => by
    rcases (by omega : i = 1 ∨ i = 2 ∨ i = 3 ∨ i = 4) with rfl | rfl | rfl | rfl
    · exact (f_okp (by decide) (by decide +kernel)).1
    · exact (f_okp (by decide) (by decide +kernel)).1
    · exact (f_okp (by decide) (by decide +kernel)).1
    · exact (f_okp (by decide) (by decide +kernel)).1
  have it : ∀ i j, 1 ≤ i → i ≤ 4 → fInt (16 + i) j = true := fun i j i1 i2 => by
    rcases (by omega : i = 1 ∨ i = 2 ∨ i = 3 ∨ i = 4) with rfl | rfl | rfl | rfl
    · exact (f_okp (by decide) (by decide +kernel)).1
    · exact (f_okp (by decide) (by decide +kernel)).1
    · exact (f_okp (by decide) (by decide +kernel)).1
    · exact (f_okp (by decide) (by decide +kernel)).1
  have P : ∀ p, p < 8 → _ := fun p hp => List.all_eq_true.mp q3 p (List.mem_range.mpr hp)
  have R : ∀ p, p < 8 → (fG h (3 + 1) p = fG h 149 (14 + 7 * p) ∧ fG h (3 + 2) p = fG h 149 (15 + 7 * p) ∧ fG h (3 + 4) p = fG h 149 (116 + p)) ∧ (fG h (16 + 1) p = fG h 149 (12 + 7 * p) ∧ fG h (16 + 2) p = fG h 149 (13 + 7 * p) ∧ fG h (16 + 3) p = fG h 149 (16 + 7 * p) ∧ fG h (16 + 4) p = fG h 149 (18 + 7 * p)) ∧ fG h 149 (17 + 7 * p) = 0 ∧ fG h 149 (18 + 7 * p) = 0 ∧ (0 ≤ fG h 149 (14 + 7 * p) ∧ fG h 149 (14 + 7 * p) ≤ 99) ∧ (0 ≤ fG h 149 (13 + 7 * p) ∧ fG h 149 (13 + 7 * p) ≤ 20) := fun p hp => by
    obtain ⟨r1, r2⟩ := f_and (P p hp)
    obtain ⟨h1, r1⟩ := f_and r1
    obtain ⟨h2, h4⟩ := f_and r1
    obtain ⟨r2, r3⟩ := f_and r2
    obtain ⟨k1, r2⟩ := f_and r2
    obtain ⟨k2, r2⟩ := f_and r2
    obtain ⟨k3, k4⟩ := f_and r2
    obtain ⟨z1, r3⟩ := f_and r3
    obtain ⟨z2, r3⟩ := f_and r3
    obtain ⟨z3, z4⟩ := f_and r3
    have y1 := px_ib_ok z1 (im _) (by decide)
    have y2 := px_ib_ok z2 (im _) (by decide)
    exact ⟨⟨px_eq_ok h1 (ih _ _ (by decide) (by decide)) (im _), px_eq_ok h2 (ih _ _ (by decide) (by decide)) (im _), px_eq_ok h4 (ih _ _ (by decide) (by decide)) (im _)⟩, ⟨px_eq_ok k1 (it _ _ (by decide) (by decide)) (im _), px_eq_ok k2 (it _ _ (by decide) (by decide)) (im _), px_eq_ok k3 (it _ _ (by decide) (by decide)) (im _), px_eq_ok k4 (it _ _ (by decide) (by decide)) (im _)⟩, by omega, by omega, px_ib_ok z3 (im _) (by decide), px_ib_ok z4 (im _) (by decide)⟩
  have y7 := px_ib_ok t7 (by decide +kernel) (by decide)
  have y7 : fG h 16 7 = 0 := by omega
  have y5 := px_ib_ok t5 (by decide +kernel) (by decide)
  have y6 := px_ib_ok t6 (by decide +kernel) (by decide)
  have y10 := px_ib_ok l10 (im _) (by decide)
  have yp := px_ib_ok p0 (by decide +kernel) (by decide)
  have ya := px_ib_ok p1 (by decide +kernel) (by decide)
  have yn := px_ib_ok p2 (by decide +kernel) (by decide)
  have yi := px_ib_ok p3 (by decide +kernel) (by decide)
  have f0 : ∀ p : Nat, p < 8 → fbt 0 (p : Int) = 0 := by decide +kernel
  refine ⟨⟨fun j hj => px_eq_ok (List.all_eq_true.mp q1 j (List.mem_range.mpr hj)) (f_okp (by decide) (by decide +kernel)).1 (f_okp (by decide) (by decide +kernel)).1, ⟨px_eq_ok a3 (by decide +kernel) (im _), px_eq_ok a4 (by decide +kernel) (im _), px_eq_ok a0 (by decide +kernel) (im _), px_eq_ok a5 (by decide +kernel) (im _), px_eq_ok a6 (by decide +kernel) (im _), px_eq_ok a7 (by decide +kernel) (im _), fun p hp => (R p hp).1.1, fun p hp => (R p hp).1.2.1, fun j hj => ?_, fun j hj => (R j hj).1.2.2⟩, ⟨⟨fun p hp => (R p hp).2.1.1, fun p hp => (R p hp).2.1.2.1, fun p hp => (R p hp).2.1.2.2.1, fun p hp => (R p hp).2.1.2.2.2, fun p hp => ?_, px_eq_ok t8 (by decide +kernel) (im _), px_eq_ok t9 (by decide +kernel) (im _), px_eq_ok t10 (by decide +kernel) (im _)⟩, ⟨by omega, by omega, by omega, by omega, by omega, fun a ha => by omega⟩⟩, ⟨fun p hp _ => (R p hp).2.2.2.1, fun p hp t => absurd (R p hp).2.2.1 t, fun p hp _ => (R p hp).2.2.1⟩, RPs_0 (by omega) (by omega) (by omega) (by omega)⟩, ⟨⟨px_ib_ok b7 (im _) (by decide), px_ib_ok b8 (im _) (by decide), fun p hp => ⟨(R p hp).2.2.2.2.1, by have := (R p hp).2.2.2.1; omega, (R p hp).2.2.2.2.2⟩, px_ib_ok b0 (im _) (by decide)⟩, fun r hr => by omega⟩, ⟨fun k hk => px_ib_ok (List.all_eq_true.mp w0 k (List.mem_range.mpr hk)) (im _) (by decide), px_ib_ok w2 (im _) (by decide), Or.inl ⟨px_im_ok w1 (im _), px_im_ok w7 (by decide +kernel)⟩⟩, fun hk => by omega, e1, e2⟩
  · have hj : (j : Int) < 8 * fG h 3 5 := hj
    exact px_eq_ok (List.all_eq_true.mp q4 j (List.mem_range.mpr (by omega))) (ih _ _ (by decide) (by decide)) (im _)
  · rw [y7, (R p hp).2.2.1]
    exact f0 p hp
noncomputable def px_end (o : sx_O) : Bool := Nat.beq o.1 99 && (Nat.beq o.2.2.2.1 160 && (Nat.ble o.2.2.2.2.2.1 500000 && (Nat.ble o.2.2.2.2.2.2 7000000 && (Nat.beq (sx_rdK o.2.2.1 1 (fun _ ct => sx_get ct 1)) (sx_rdK o.2.2.1 148 (fun _ ct => sx_get ct 8)) && (Nat.beq (sx_rdK o.2.2.1 0 (fun _ ct => sx_get ct 15)) (sx_rdK o.2.2.1 148 (fun _ ct => sx_get ct 3)) && (px_t2 o.2.2.1 && (List.range 160).all (fun c => sx_rdK o.2.2.1 c (fun hd ct => px_cell hd ct (ax_cl c)))))))))
noncomputable def px_chk (r : sx_R) : Bool := Option.rec false (fun os => List.rec false (fun o t _ => List.rec (px_end o) (fun _ _ _ => false) t) os) r
set_option maxRecDepth 1000000 in
theorem px_q : px_chk (px_run 100000 44 0 sx_c0 [] false 0 [5, 7, 7, 7, 7, 7, 7] [] sx_h0p 0 [] 0 9198) = true := by decide +kernel
def ax_Pl (co : sx_O) : Prop := co.1 = 1 ∧ co.2.1 = 8 ∧ co.2.2.2.2.2.1 ≤ 600002 ∧ co.2.2.2.2.2.2 ≤ 7293034
theorem ax_Sc_s {N : Nat} {sy : sx_Y} (hS : ax_Sc N sy) : ∃ s : Nat → Int, ∀ W : ax_W, W.N = N → W.sy = sy → fScr W s := by
  have ex : ∀ i : Nat, ∃ z : Int, i < N → fR z ∧ ∃ e, sy[i]? = some e ∧ e.1 = sx_b (Int32.ofInt z) ∧ e.2.1 = sx_b (Int32.ofInt z) := fun i => by
    by_cases h : i < N
    · obtain ⟨P, e, e1, e2, e3⟩ := hS.2 i h
      exact ⟨P.toInt, fun _ => ⟨⟨by have := Int32.le_toInt P; omega, by have := Int32.toInt_lt P; omega⟩, e, e1, by rw [Int32.ofInt_toInt]; exact e2, by rw [Int32.ofInt_toInt]; exact e3⟩⟩
    · exact ⟨0, fun t => absurd t h⟩
  refine ⟨fun i => Classical.choose (ex i), fun W e1 e2 => ?_⟩
  subst e1 e2
  exact ⟨hS.1, fun i hi => Classical.choose_spec (ex i) hi⟩
theorem px_law {N : Nat} {sy : sx_Y} (hS : ax_Sc N sy) (hN : N ≤ 3072) (hC : ax_Csl N sy ax_cases) (hW : gx_Cw N sy) : ∃ co, (∃ f0, ∀ f, f0 ≤ f → sx_run N f 44 0 sx_c0 [] false 0 [5, 7, 7, 7, 7, 7, 7] [] sx_h0p 0 sy 0 9198 = some [co]) ∧ ax_Pl co := by
  have hq := px_q
  unfold px_chk at hq
  generalize hr : px_run 100000 44 0 sx_c0 [] false 0 [5, 7, 7, 7, 7, 7, 7] [] sx_h0p 0 [] 0 9198 = res at hq
  match res, hr, hq with
  | none, _, hq => cases hq
  | some [], _, hq => cases hq
  | some (_ :: _ :: _), _, hq => cases hq
  | some [o1], hr, hq =>
    have hq : px_end o1 = true := hq
    unfold px_end at hq
    simp only [Bool.and_eq_true, sx_rdK_eq] at hq
    obtain ⟨a1, a2, a3, a4, a5, a7, a8, a6⟩ := hq
    have a1 := sx_beq a1
    have a2 := sx_beq a2
    have a3 := sx_ble a3
    have a4 := sx_ble a4
    have a5 := sx_beq a5
    have a7 := sx_beq a7
    have cell : ∀ c, c < 160 → (sx_rd o1.2.2.1 c).1 = (ax_cl c).1 ∧ ∀ j, j < (ax_cl c).1 / 256 → ax_Pk c j (sx_get (sx_rd o1.2.2.1 c).2 j) := fun c hc => px_cell_ok (List.all_eq_true.mp a6 c (List.mem_range.mpr hc))
    have hs : ax_Hs o1.2.2.1 := ⟨fun c hc => (cell c hc).1, fun c j hc hj => (cell c hc).2 j hj⟩
    have v := HV_of hs
    have eg : ∀ c j c' j', c < 160 → j < (ax_cl c).1 / 256 → fInt c j = true → c' < 160 → j' < (ax_cl c').1 / 256 → fInt c' j' = true → sx_get (sx_rd o1.2.2.1 c).2 j = sx_get (sx_rd o1.2.2.1 c').2 j' → fG o1.2.2.1 c j = fG o1.2.2.1 c' j' := fun c j c' j' a b i a' b' i' e => by
      rw [(v.2 c j a b).1, (v.2 c' j' a' b').1] at e
      unfold fEnc at e
      rw [if_pos i, if_pos i'] at e
      exact fI_inj ((v.2 c j a b).2.1 i) ((v.2 c' j' a' b').2.1 i') e
    have hI : LInv2 (fG o1.2.2.1) := ⟨gHs_of hs v, px_t2_ok (gHs_LB2 hs v).1.2.1.2 a8 (eg 1 1 148 8 (by decide) (by decide +kernel) (by decide +kernel) (by decide) (by decide +kernel) (by decide +kernel) a5) (eg 0 15 148 3 (by decide) (by decide +kernel) (by decide +kernel) (by decide) (by decide +kernel) (by decide +kernel) a7)⟩
    obtain ⟨s, hss⟩ := ax_Sc_s hS
    obtain ⟨co, ev, b1, -, g', -, ⟨b2, b3⟩, b4, -⟩ := gx_rounds (W := (N, sy, o1.2.2.1, 0, 0, 0, 0, 0)) (hss (N, sy, o1.2.2.1, 0, 0, 0, 0, 0) rfl rfl) hN hC hW 512 0 (fG o1.2.2.1) 7 7 (by show N < _; omega) (Nat.zero_le _) hI (by decide) (by decide) 44 o1.2.2.1 o1.2.2.2.2.2.1 o1.2.2.2.2.2.2 (Nat.le_refl _) v (by omega) (by omega)
    have b2 : co.1 = 1 := b2
    have b4 : co.1 ≤ 1 → co.2.2.2.2.2.1 ≤ o1.2.2.2.2.2.1 + 1024 ∧ co.2.2.2.2.2.2 ≤ o1.2.2.2.2.2.2 + 6144 := b4
    have b5 := b4 (by omega)
    refine ⟨co, px_run_ok 100000 44 0 sx_c0 0 [5, 7, 7, 7, 7, 7, 7] [] sx_h0p 0 0 9198 o1 hr co (Or.inl ⟨a1, ?_⟩), b2, b3, by omega, by omega⟩
    rw [a2]
    exact ev
