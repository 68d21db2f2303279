/-! ax: each step -/
section AXBody
variable {W : ax_W} {ih : ax_ih} {g : ax_G} {d D mi cd : Nat} {lst : List ax_I} {pc w : Nat} {L S : List Nat} {M : ax_M} {F : ax_F} {Y : ax_Y} {n th : Nat} {ρ : List Nat} {outs : List ax_O} {hh : sx_H} {cs ss : Nat} {cL cS : List Nat} {Post : sx_O → Prop}
theorem ax_body_ok (hG : ax_Gk W g) (hV : ax_Gv W.N W.sy g) (C : ax_Cx W ih d D mi cd lst pc w L S M F Y n th ρ outs hh cs ss cL cS Post) (h : ax_body ih g w d mi cd lst pc L S M F Y n th = some outs) : cx_G W D mi cd pc cL cS hh cs ss Post := by
  unfold ax_body at h
  rw [sx_fo_eq] at h
  rcases ax_if h with ⟨c, h⟩ | ⟨-, h⟩
  · exact ax_s2 C (sx_beq c) h
  rcases ax_if h with ⟨c, h⟩ | ⟨-, h⟩
  · exact ax_s1 C (sx_beq c) h
  rcases ax_if h with ⟨c, h⟩ | ⟨-, h⟩
  · exact ax_s9 C (sx_beq c) h
  rcases ax_if h with ⟨c, h⟩ | ⟨-, h⟩
  · exact ax_s7 C (sx_beq c) h
  rcases ax_if h with ⟨c, h⟩ | ⟨-, h⟩
  · exact ax_s6 C (sx_beq c) h
  rcases ax_if h with ⟨c, h⟩ | ⟨-, h⟩
  · exact ax_s11 hG C (sx_beq c) h
  rcases ax_if h with ⟨c, h⟩ | ⟨-, h⟩
  · exact ax_s8 C (sx_beq c) h
  rcases ax_if h with ⟨c, h⟩ | ⟨-, h⟩
  · exact ax_s5 C (sx_beq c) h
  rcases ax_if h with ⟨c, h⟩ | ⟨-, h⟩
  · exact ax_s3 C (sx_beq c) h
  rcases ax_if h with ⟨c, h⟩ | ⟨-, h⟩
  · exact ax_s26 C (sx_beq c) h
  rcases ax_if h with ⟨c, h⟩ | ⟨-, h⟩
  · exact ax_s21 hG hV C (sx_beq c) h
  rcases ax_if h with ⟨c, h⟩ | ⟨-, h⟩
  · exact ax_s4 C (sx_beq c) h
  rcases ax_if h with ⟨c, h⟩ | ⟨-, h⟩
  · exact ax_s12 hG C (sx_beq c) h
  rcases ax_if h with ⟨c, h⟩ | ⟨-, h⟩
  · exact ax_s22 hG hV C (sx_beq c) h
  rcases ax_if h with ⟨c, h⟩ | ⟨-, h⟩
  · exact ax_s27 C (sx_beq c) h
  rcases ax_if h with ⟨c, h⟩ | ⟨-, h⟩
  · exact ax_s10 hG C (sx_beq c) h
  rcases ax_if h with ⟨c, h⟩ | ⟨-, h⟩
  · exact ax_s29 C (sx_beq c) h
  rcases ax_if h with ⟨c, h⟩ | ⟨-, h⟩
  · exact ax_s30 C (sx_beq c) h
  rcases ax_if h with ⟨c, h⟩ | ⟨-, h⟩
  · exact ax_s31 C (sx_beq c) h
  rcases ax_if h with ⟨c, h⟩ | ⟨-, h⟩
  · exact ax_s13 C (sx_beq c) h
  rcases ax_if h with ⟨c, h⟩ | ⟨-, h⟩
  · exact ax_s14 hG C (sx_beq c) h
  rcases ax_if h with ⟨c, h⟩ | ⟨-, h⟩
  · exact ax_s15 C (sx_beq c) h
  rcases ax_if h with ⟨c, h⟩ | ⟨-, h⟩
  · exact ax_s17 hG C (sx_beq c) h
  rcases ax_if h with ⟨c, h⟩ | ⟨-, h⟩
  · exact ax_s25 hG C (sx_beq c) h
  rcases ax_if h with ⟨c, h⟩ | ⟨-, h⟩
  · exact ax_s28 hG C (sx_beq c) h
  rcases ax_if h with ⟨c, h⟩ | ⟨-, h⟩
  · exact ax_s32 C (sx_beq c) h
  rcases ax_if h with ⟨c, h⟩ | ⟨-, h⟩
  · exact ax_s35 C (sx_beq c) h
  rcases ax_if h with ⟨c, h⟩ | ⟨-, h⟩
  · exact ax_s37 C (sx_beq c) h
  rcases ax_if h with ⟨c, h⟩ | ⟨-, h⟩
  · exact ax_s39 hG hV C (sx_beq c) h
  rcases ax_if h with ⟨c, h⟩ | ⟨-, h⟩
  · exact ax_s38 C (sx_beq c) h
  rcases ax_if h with ⟨c, h⟩ | ⟨-, h⟩
  · exact ax_s33 C (sx_beq c) h
  rcases ax_if h with ⟨c, h⟩ | ⟨-, h⟩
  · exact ax_s34 C (sx_beq c) h
  rcases ax_if h with ⟨c, h⟩ | ⟨-, h⟩
  · exact ax_s36 C (sx_beq c) h
  rcases ax_if h with ⟨c, h⟩ | ⟨-, h⟩
  · exact ax_s42 C (sx_beq c) h
  rcases ax_if h with ⟨c, h⟩ | ⟨-, h⟩
  · exact ax_s43 C (sx_beq c) h
  rcases ax_if h with ⟨c, h⟩ | ⟨-, h⟩
  · exact ax_s40 hG hV C (sx_beq c) h
  rcases ax_if h with ⟨c, h⟩ | ⟨-, h⟩
  · exact ax_s41 C (sx_beq c) h
  cases h
theorem ax_nx_ok (hG : ax_Gk W g) (hV : ax_Gv W.N W.sy g) (wk : ax_Wk W) (ok : ax_Ok W ih) (dd : d ≤ D) (X : ax_X W ρ M F Y n th hh cs ss) (HL : ax_Ls ρ L cL) (HS : ax_Ls ρ S cS) (Pq : ax_Pq W ρ outs Post) (Hq : ax_Hq W D mi cd ρ lst Post) (h : ax_nx ih g d mi cd lst pc L S M F Y n th = some outs) : cx_G W D mi cd pc cL cS hh cs ss Post := by
  unfold ax_nx at h
  rw [sx_fo_eq] at h
  obtain ⟨c, h⟩ := ax_if0 h
  have c := sx_beq c
  cases e : ax_ef g.2.2.2.2.1 mi pc with
  | none =>
    rw [e] at h
    exact ax_body_ok hG hV ⟨wk, ok, dd, X, HL, HS, Pq, Hq, rfl, c⟩ h
  | some dp =>
    rw [e] at h
    have h : sx_fo (sx_ln S dp) (fun v => ax_en Y n v 255 (fun _ Y => ax_body ih g (sx_ft cd pc) d mi cd lst pc L S M F Y n th)) = some outs := h
    rw [sx_fo_eq] at h
    obtain ⟨P, j, -⟩ := (HS.ln dp).toInt (ax_rg_tag h)
    obtain ⟨Y', o', h1, h2, h3⟩ := ax_en_ok h X.yk j
    exact ax_body_ok hG hV ⟨wk, ok, dd, X.yf h3 X.fk, HL, HS, Pq.sub h2 List.prefix_rfl, Hq, rfl, c⟩ h1
end AXBody
