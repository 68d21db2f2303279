/-! fx: rows of objects -/
section FHF
variable {W : ax_W} {r d mi pc : Nat} {L S : List Nat} {g : Nat → Nat → Int} {Q : Nat → Nat → (Nat → Nat → Int) → Prop}
theorem fx_aal (p c j v pc' : Nat) (q : (fq mi pc 15 && (Nat.beq p (8 * c + 2) && (Nat.blt c 160 && (Nat.beq (Nat.mod (ax_cl c).1 256) 102 && (Nat.blt j (Nat.div (ax_cl c).1 256) && (Nat.beq (fPtr c j) v && (Nat.blt 0 v && Nat.blt j 1000))))))) = true) (hp : pc + 1 = pc') (k : fx W r d mi pc' L (v :: S) g Q) : fx W r d mi pc L (fI (j : Int) :: p :: S) g Q := by
  subst hp
  obtain ⟨q1, q⟩ := f_and q
  obtain ⟨q2, q⟩ := f_and q
  obtain ⟨q3, q⟩ := f_and q
  obtain ⟨q4, q⟩ := f_and q
  obtain ⟨q5, q⟩ := f_and q
  obtain ⟨q6, q⟩ := f_and q
  obtain ⟨q7, q8⟩ := f_and q
  obtain ⟨o1, o2⟩ := fq_ok q1
  have e2 : p = 8 * c + 2 := sx_beq q2
  subst e2
  have hc : c < 160 := sx_blt q3
  have ha : (ax_cl c).1 % 256 = 102 := sx_beq q4
  have hj : j < (ax_cl c).1 / 256 := sx_blt q5
  have e6 : fPtr c j = v := sx_beq q6
  have e7 : 0 < v := sx_blt q7
  have e8 : j < 1000 := sx_blt q8
  refine fx_s o2 (fun ih D h cs ss hv => ?_) k
  rw [cx_b15 o1]
  unfold sx_oAld
  rw [fcp1, fcp1, f_ref hc, sx_if_t, fI_eq, cx_ix, sx_rdK_eq, f_plr, hv.1 c hc, sx_beq_t (show Nat.mod (ax_cl c).1 256 = 102 from ha), cx_at, fI_n (by omega) (by omega), sx_blt_t (show ((j : Int)).toNat < Nat.div (ax_cl c).1 256 by show ((j : Int)).toNat < (ax_cl c).1 / 256; omega), sx_if_t, sx_fo_eq, sx_fo_eq, sx_beq_e (by decide), sx_if_f, show ((j : Int)).toNat = j from rfl, (hv.2 c j hc hj).2.2 (by omega), e6, sx_beq_e (show ¬ (102 : Nat) = 101 by decide), sx_if_f, sx_beq_e (show ¬ v = 0 by omega), sx_if_f]
end FHF
