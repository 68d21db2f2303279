/-! fx: what the walks use -/
theorem fu_app (g : Nat → Nat → Int) (c j : Nat) (z : Int) (c' j' : Nat) : fu g c j z c' j' = if c' = c ∧ j' = j then z else g c' j' := rfl
theorem fcy_app (g : Nat → Nat → Int) (a b c j : Nat) : fcy g a b c j = if c = b then g a j else g c j := rfl
theorem fx_simp0 : ((1 : Int) = 0) = False := by decide
theorem f_n4p {x v : Nat} (h : x = v) (hv : v % 8 ≠ 4) : x % 8 ≠ 4 := by rw [h]; exact hv
theorem f_sty {v : Nat} (h : f_sk v) : sx_ty 1 v = true := by
  obtain ⟨h1, -⟩ := sx_and_ok h.1
  unfold sx_ty
  rw [sx_beq_e (by decide), sx_if_f, sx_beq_t rfl, sx_if_t, sx_beq h1]
  rfl
theorem f_s4 {v : Nat} (h : f_sk v) : v % 8 ≠ 4 := by
  obtain ⟨h1, -⟩ := sx_and_ok h.1
  have h1 : v % 8 = 5 := sx_beq h1
  omega
theorem f_b4 {v : Nat} : Nat.add (Nat.mul 8 (Nat.add (sx_pl v) sx_ns)) 5 % 8 ≠ 4 := by
  show (8 * (sx_pl v + sx_ns) + 5) % 8 ≠ 4
  omega
theorem f_q22 {mi pc mj a n pc' : Nat} {P : List Nat} (h : ((fq mi pc 22 && Nat.beq (sx_wc (fw mi pc)) mj) && f_qi mi pc mj n pc' P) = true) : (f_qm mi pc mj 22 a && f_qi mi pc mj n pc' P) = true := h
theorem f_q39 {mi pc mj a n pc' : Nat} {P : List Nat} (hs : sx_isS a = true) (h : ((fq mi pc 39 && Nat.beq (sx_wc (fw mi pc)) mj) && f_qi mi pc mj n pc' P) = true) : (f_qm mi pc mj 39 a && f_qi mi pc mj n pc' P) = true := by
  obtain ⟨h1, h2⟩ := f_and h
  obtain ⟨h1, h3⟩ := f_and h1
  show ((fq mi pc 39 && (Nat.beq (sx_wc (fw mi pc)) mj && sx_isS a)) && f_qi mi pc mj n pc' P) = true
  rw [h1, h2, h3, hs]
  rfl
section FXF
variable {W : ax_W} {r : Nat} {g : Nat → Nat → Int} {Q : Nat → Nat → (Nat → Nat → Int) → Prop}
theorem sp_isIn {v lo hi : Int} (hv : fR v) (hl : fR lo) (hh : fR hi) (k1 : lo ≤ v ∧ v ≤ hi → Q 1 (fI 1) g) (k2 : ¬ (lo ≤ v ∧ v ≤ hi) → Q 1 (fI 0) g) : fx W r 0 266 0 [fI v, fI lo, fI hi] [] g Q := by
  unfold fR at hv hl hh
  refine fx_li 0 1 (by decide +kernel) rfl ?_
  refine fx_li 1 2 (by decide +kernel) rfl ?_
  refine fx_ilt 14 5 (by decide +kernel) (by unfold fR; omega) (by unfold fR; omega) (fun h2 => ?_) (fun h2 => ?_)
  · refine fx_ci (0) 15 (by decide +kernel) ?_
    refine fx_retb (by decide +kernel) (by first | exact Or.inl rfl | exact Or.inr rfl | omega) ?_
    first | exact k1 ⟨by omega, by omega⟩ | exact k2 (fun t => by omega)
  · refine fx_li 0 6 (by decide +kernel) rfl ?_
    refine fx_li 2 7 (by decide +kernel) rfl ?_
    refine fx_igt 14 10 (by decide +kernel) (by unfold fR; omega) (by unfold fR; omega) (fun h7 => ?_) (fun h7 => ?_)
    · refine fx_ci (0) 15 (by decide +kernel) ?_
      refine fx_retb (by decide +kernel) (by first | exact Or.inl rfl | exact Or.inr rfl | omega) ?_
      first | exact k1 ⟨by omega, by omega⟩ | exact k2 (fun t => by omega)
    · refine fx_ci (1) 11 (by decide +kernel) ?_
      refine fx_go 15 (by decide +kernel) ?_
      refine fx_retb (by decide +kernel) (by first | exact Or.inl rfl | exact Or.inr rfl | omega) ?_
      first | exact k1 ⟨by omega, by omega⟩ | exact k2 (fun t => by omega)
/-- the letters that are read: of the tape, or of the law that is kept -/
def flt (g : Nat → Nat → Int) (k : Int) : Int := if g 148 9 = -1 then g 153 k.toNat else g 149 (g 148 9 + k).toNat
theorem sp_letter {k : Int} (hk : 0 ≤ k) (hb : (g 148 9 = -1 ∧ k < 400) ∨ (0 ≤ g 148 9 ∧ g 148 9 + k < 764)) (kq : Q 1 (fI (flt g k)) g) : fx W r 0 272 0 [1186, fI k] [] g Q := by
  unfold flt at kq
  refine fx_rg (fun hg => ?_)
  refine fx_la 0 1 (v := 1186) (by decide +kernel) rfl (by decide +kernel) ?_
  refine fx_gi 1186 148 9 4 (by decide +kernel) ?_
  refine fx_ci (-1) 5 (by decide +kernel) ?_
  refine fx_ine 17 8 (by decide +kernel) (by first | exact hg 148 9 (by decide) (by decide +kernel) (by decide +kernel) | (unfold fR; omega)) (by unfold fR; omega) (fun h5 => ?_) (fun h5 => ?_)
  · refine fx_la 0 18 (v := 1186) (by decide +kernel) rfl (by decide +kernel) ?_
    refine fx_gp 1186 148 1 1194 21 (by decide +kernel) ?_
    refine fx_la 0 22 (v := 1186) (by decide +kernel) rfl (by decide +kernel) ?_
    refine fx_gi 1186 148 9 25 (by decide +kernel) ?_
    refine fx_li 1 26 (by decide +kernel) rfl ?_
    refine fx_add 27 (by decide +kernel) rfl ?_
    refine fx_al 1194 149 764 28 (by decide +kernel) rfl (by omega) (by omega) rfl ?_
    refine fx_ret (by decide +kernel) ?_
    first | (rw [if_neg (by omega)] at kq; exact kq) | (rw [if_pos (by omega)] at kq; exact kq)
  · refine fx_la 0 9 (v := 1186) (by decide +kernel) rfl (by decide +kernel) ?_
    refine fx_gp 1186 148 7 1226 12 (by decide +kernel) ?_
    refine fx_li 1 13 (by decide +kernel) rfl ?_
    refine fx_al 1226 153 400 14 (by decide +kernel) rfl (by omega) (by omega) rfl ?_
    refine fx_go 28 (by decide +kernel) ?_
    refine fx_ret (by decide +kernel) ?_
    first | (rw [if_neg (by omega)] at kq; exact kq) | (rw [if_pos (by omega)] at kq; exact kq)
end FXF
theorem f_bty {v : Nat} : sx_ty 1 (Nat.add (Nat.mul 8 (Nat.add (sx_pl v) sx_ns)) 5) = true := by
  have e : sx_tg (Nat.add (Nat.mul 8 (Nat.add (sx_pl v) sx_ns)) 5) = 5 := show (8 * (sx_pl v + sx_ns) + 5) % 8 = 5 by omega
  unfold sx_ty
  rw [sx_beq_e (by decide), sx_if_f, sx_beq_t rfl, sx_if_t, e]
  rfl
