/-! ax: the law, round by round -/
/-- where the law stands before round i -/
def ax_Lw (N i : Nat) (cL : List Nat) (hh : sx_H) : Prop := i ≤ N ∧ ax_Hs hh ∧ (∃ x5 x6, cL = [5, 2, 1186, 1274, 8 * i, x5, x6] ∧ x5 % 8 ≠ 4 ∧ x6 % 8 ≠ 4) ∧ sx_get (sx_rd hh 1).2 1 = sx_get (sx_rd hh 148).2 8 ∧ sx_get (sx_rd hh 0).2 15 = sx_get (sx_rd hh 148).2 3
/-- the tape's length -/
theorem ax_tape {hh : sx_H} (h : ax_Hs hh) : ∃ T, sx_get (sx_rd hh 1).2 1 = sx_i T ∧ 2147483648 ≤ sx_b T ∧ sx_b T ≤ 2147484048 := by
  obtain ⟨s, h1, h2⟩ := h.pk 1 1 (by decide) (by decide +kernel)
  have e : ax_sg (ax_cl 1).2.2 (1 % (ax_cl 1).2.1) (1 % (ax_cl 1).2.1) = some (2, 0, 2147483648, 2147484048, 0, 0) := by decide +kernel
  cases e.symm.trans h1
  rcases h2 with ⟨-, T, k1, k2, k3⟩ | ⟨k, -⟩ | ⟨k, -⟩ | ⟨k, -⟩ | ⟨k, -⟩
  · exact ⟨T, k1, k2, k3⟩
  all_goals cases k
/-- is an image kept -/
theorem ax_img {hh : sx_H} (h : ax_Hs hh) : ∃ T, sx_get (sx_rd hh 0).2 15 = sx_i T ∧ 2147483648 ≤ sx_b T ∧ sx_b T ≤ 2147483649 := by
  obtain ⟨s, h1, h2⟩ := h.pk 0 15 (by decide) (by decide +kernel)
  have e : ax_sg (ax_cl 0).2.2 (15 % (ax_cl 0).2.1) (15 % (ax_cl 0).2.1) = some (16, 0, 2147483648, 2147483649, 0, 0) := by decide +kernel
  cases e.symm.trans h1
  rcases h2 with ⟨-, T, k1, k2, k3⟩ | ⟨k, -⟩ | ⟨k, -⟩ | ⟨k, -⟩ | ⟨k, -⟩
  · exact ⟨T, k1, k2, k3⟩
  all_goals cases k
def ax_L0 (a : Nat) : List Nat := [5, 2, 1186, 1274, a, 7, 7]
def ax_Y0 : ax_Y := [(2147483648, 2147483649, 0, 0, 0, 0), (2147483648, 2147484048, 0, 0, 0, 0), (2147483648, 2147486720, 0, 0, 0, 0), (2147483648, 2147486720, 0, 0, 0, 0)]
def ax_M0 : ax_M := [(1, 8, 4503599627370513), (148, 64, 4503599627370513), (0, 120, 4503599627370521), (148, 24, 4503599627370521)]
theorem ax_L0_ok {ρ : List Nat} {i c4 x5 x6 a : Nat} (h4 : ax_V ρ a c4) (h5 : x5 % 8 ≠ 4) (h6 : x6 % 8 ≠ 4) (hi : c4 = 8 * i) : ax_Ls ρ (ax_L0 a) [5, 2, 1186, 1274, 8 * i, x5, x6] := by
  subst hi
  exact ⟨ax_V.ref ⟨by decide, by decide, by decide, by decide⟩, ax_V.ref ⟨by decide, by decide, by decide, by decide⟩, ax_V.ref ⟨by decide, by decide, by decide, by decide⟩, ax_V.ref ⟨by decide, by decide, by decide, by decide⟩, h4, Or.inr (Or.inr (Or.inl ⟨rfl, h5⟩)), Or.inr (Or.inr (Or.inl ⟨rfl, h6⟩)), True.intro⟩
theorem ax_two_eq {ρ : List Nat} {Y : ax_Y} {n v u c1 c0 : Nat} (hY : ax_Yk ρ Y n) (hii : ax_ii v u = true) (h : ax_nm Y n v (fun v => ax_nm Y n u (fun u => Nat.beq v u)) = true) (h1 : ax_V ρ v c1) (h0 : ax_V ρ u c0) : c1 = c0 := by
  obtain ⟨P, Q, jp, jq, rfl, rfl⟩ := ax_ii_ok h1 h0 hii
  rcases ax_nm_eq hY h h1 h0 with q | ⟨-, q⟩
  · subst q
    rw [sx_b_inj (jp.uniq jq)]
  · exact q
/-- and back -/
theorem ax_L0_of {ρ L cL : List Nat} {a : Nat} (h : ax_le7 L (ax_L0 a) = true) (HL : ax_Ls ρ L cL) (ha : a % 8 = 1) : ∃ c4 x5 x6, cL = [5, 2, 1186, 1274, c4, x5, x6] ∧ ax_V ρ a c4 ∧ x5 % 8 ≠ 4 ∧ x6 % 8 ≠ 4 := by
  obtain ⟨h1, h2⟩ := ax_le7_ok h
  have hl := HL.len
  have h1 : L.length = 7 := h1
  rw [h1] at hl
  match cL, hl, HL with
  | [c0, c1, c2, c3, c4, c5, c6], _, HL =>
    have ref : ∀ {k i v : Nat}, sx_ln (ax_L0 a) i = k → k ≠ 39 → k ≠ 7 → k ≠ 23 → 2 ≤ k % 8 → k % 8 ≤ 6 → ax_V ρ (sx_ln L i) v → v = k := by
      intro k i v e n1 n2 n3 t1 t2 hv
      rcases h2 i with q | ⟨q, -⟩ | ⟨q, -⟩ | q
      · exact absurd (e.symm.trans q) n1
      · exact absurd (e.symm.trans q) n2
      · exact absurd (e.symm.trans q) n3
      · rw [q, e] at hv
        exact (hv.toRef t1 t2).2
    have e0 : c0 = 5 := ref (i := 0) rfl (by decide) (by decide) (by decide) (by decide) (by decide) (HL.ln 0)
    have e1 : c1 = 2 := ref (i := 1) rfl (by decide) (by decide) (by decide) (by decide) (by decide) (HL.ln 1)
    have e2 : c2 = 1186 := ref (i := 2) rfl (by decide) (by decide) (by decide) (by decide) (by decide) (HL.ln 2)
    have e3 : c3 = 1274 := ref (i := 3) rfl (by decide) (by decide) (by decide) (by decide) (by decide) (HL.ln 3)
    subst e0 e1 e2 e3
    have nl : ∀ {i v : Nat}, sx_ln (ax_L0 a) i = 7 → ax_V ρ (sx_ln L i) v → v % 8 ≠ 4 := by
      intro i v e hv
      rcases h2 i with q | ⟨-, q⟩ | ⟨q, -⟩ | q
      · exact absurd (e.symm.trans q) (by decide)
      · exact hv.nl q
      · exact absurd (e.symm.trans q) (by decide)
      · rw [q, e] at hv
        exact hv.nl (by decide)
    refine ⟨c4, c5, c6, rfl, ?_, nl (i := 5) rfl (HL.ln 5), nl (i := 6) rfl (HL.ln 6)⟩
    have h4 := HL.ln 4
    rcases h2 4 with q | ⟨q, -⟩ | ⟨q, -⟩ | q
    · have q : a = 39 := q
      omega
    · have q : a = 7 := q
      omega
    · have q : a = 23 := q
      omega
    · rw [q] at h4
      exact h4
section AXLw
variable {N : Nat} {sy : sx_Y}
def ax_Wl (N : Nat) (sy : sx_Y) (hh : sx_H) (cs ss : Nat) : ax_W := (N, sy, hh, ax_all, cs, ss, 2, 4503599627370497)
def ax_ρl (N i : Nat) (T U : Int32) : List Nat := [2147483648 + N, 2147483648 + i, sx_b T, sx_b U]
theorem ax_l_Yk {i : Nat} {T U : Int32} (hN : N ≤ 3072) (hi : i ≤ N) (h1 : 2147483648 ≤ sx_b T) (h2 : sx_b T ≤ 2147484048) (h3 : 2147483648 ≤ sx_b U) (h4 : sx_b U ≤ 2147483649) : ax_Yk (ax_ρl N i T U) ax_Y0 4 := by
  have h0 : ax_Yk [] [] 0 := ⟨rfl, rfl, fun k r e hk => by cases hk⟩
  have a1 := h0.cons (ax_En.plain (lo := 2147483648) (hi := 2147486720) (r := 2147483648 + N) (by omega) (by omega) (by omega))
  have a2 := a1.cons (ax_En.plain (lo := 2147483648) (hi := 2147486720) (r := 2147483648 + i) (by omega) (by omega) (by omega))
  have a3 := a2.cons (ax_En.plain (lo := 2147483648) (hi := 2147484048) (r := sx_b T) h1 h2 (sx_b_lt T))
  exact a3.cons (ax_En.plain (lo := 2147483648) (hi := 2147483649) (r := sx_b U) h3 h4 (sx_b_lt U))
theorem ax_l_J0 {i : Nat} {T U : Int32} (hN : N ≤ 3072) : ax_J (ax_ρl N i T U) 4503599627370497 (2147483648 + N) := ⟨by omega, Or.inr ⟨by decide, 2147483648 + N, rfl, by show 2147483648 + N + 8589934592 = 2147483648 + N + 8589934592; rfl⟩⟩
theorem ax_l_J1 {i : Nat} {T U : Int32} (hi : i ≤ 3072) : ax_J (ax_ρl N i T U) 4503599627370505 (2147483648 + i) := ⟨by omega, Or.inr ⟨by decide, 2147483648 + i, rfl, by show 2147483648 + i + 8589934592 = 2147483648 + i + 8589934592; rfl⟩⟩
theorem ax_l_J2 {i : Nat} {T U : Int32} : ax_J (ax_ρl N i T U) 4503599627370513 (sx_b T) := ⟨sx_b_lt T, Or.inr ⟨by decide, sx_b T, rfl, by show sx_b T + 8589934592 = sx_b T + 8589934592; rfl⟩⟩
theorem ax_l_J3 {i : Nat} {T U : Int32} : ax_J (ax_ρl N i T U) 4503599627370521 (sx_b U) := ⟨sx_b_lt U, Or.inr ⟨by decide, sx_b U, rfl, by show sx_b U + 8589934592 = sx_b U + 8589934592; rfl⟩⟩
theorem ax_l_X {i : Nat} {T U : Int32} {F : ax_F} {hh : sx_H} {h0 : sx_H} {cb sb cs ss : Nat} (hN : N ≤ 3072) (hi : i ≤ N) (hs : ax_Hs hh) (hT : sx_get (sx_rd hh 1).2 1 = sx_i T) (hT2 : sx_get (sx_rd hh 148).2 8 = sx_i T) (h1 : 2147483648 ≤ sx_b T) (h2 : sx_b T ≤ 2147484048) (hU : sx_get (sx_rd hh 0).2 15 = sx_i U) (hU2 : sx_get (sx_rd hh 148).2 3 = sx_i U) (h3 : 2147483648 ≤ sx_b U) (h4 : sx_b U ≤ 2147483649) (hF : ax_Fk (ax_ρl N i T U) F) (hfr : ax_Fr h0 ax_all hh) (r1 : cs ≤ cb) (r2 : ss ≤ sb) : ax_X (ax_Wl N sy h0 cb sb) (ax_ρl N i T U) ax_M0 F ax_Y0 4 0 hh cs ss := by
  refine ⟨ax_l_Yk hN hi h1 h2 h3 h4, hF, ?_, hs, hfr, fun _ => ax_l_J0 hN, r1, r2, Nat.le_trans r1 (Nat.le_add_right _ _), Nat.le_trans r2 (Nat.le_add_right _ _)⟩
  intro m hm
  rcases List.mem_cons.mp hm with rfl | hm
  · exact Or.inr ⟨by decide, 1, by decide +kernel, ax_J_n (j := 1) (by decide), fun _ => rfl, by rw [hT]; exact ax_V.int ax_l_J2⟩
  · rcases List.mem_cons.mp hm with rfl | hm
    · exact Or.inr ⟨by decide, 8, by decide +kernel, ax_J_n (j := 8) (by decide), fun _ => rfl, by rw [hT2]; exact ax_V.int ax_l_J2⟩
    · rcases List.mem_cons.mp hm with rfl | hm
      · exact Or.inr ⟨by decide, 15, by decide +kernel, ax_J_n (j := 15) (by decide), fun _ => rfl, by rw [hU]; exact ax_V.int ax_l_J3⟩
      · rcases List.mem_cons.mp hm with rfl | hm
        · exact Or.inr ⟨by decide, 3, by decide +kernel, ax_J_n (j := 3) (by decide), fun _ => rfl, by rw [hU2]; exact ax_V.int ax_l_J3⟩
        · cases hm
theorem ax_pair {W : ax_W} {ρ : List Nat} {M : ax_M} {F : ax_F} {Y : ax_Y} {n th : Nat} {hh : sx_H} {cs ss : Nat} (X : ax_X W ρ M F Y n th hh cs ss) {c j c' j' : Nat} (hc : c < 160) (hc' : c' < 160) (h : (Option.rec false (fun v => Option.rec false (fun u => sx_and (ax_ii v u) (ax_nm Y n v (fun v => ax_nm Y n u (fun u => Nat.beq v u)))) (ax_mg M c' (Nat.mul 8 j'))) (ax_mg M c (Nat.mul 8 j)) : Bool) = true) : sx_get (sx_rd hh c).2 j = sx_get (sx_rd hh c').2 j' := by
  cases m1 : ax_mg M c (Nat.mul 8 j) with
  | none => rw [m1] at h; cases h
  | some v =>
    rw [m1] at h
    cases m2 : ax_mg M c' (Nat.mul 8 j') with
    | none => rw [m2] at h; cases h
    | some u =>
      rw [m2] at h
      obtain ⟨q1, q2⟩ := sx_and_ok h
      exact ax_two_eq X.yk q1 q2 (X.mm.pl hc m1).2 (X.mm.pl hc' m2).2
/-- one case of the law -/
def ax_Cs (N : Nat) (sy : sx_Y) (pc d : Nat) : Prop := ∃ g fuel, ax_case g d pc fuel = true ∧ ax_Gv N sy g ∧ g.1 = ax_all ∧ g.2.2.2.2.2.1 = 4503599627370497 ∧ g.2.2.2.2.2.2.1 = 2
theorem ax_bw_ok {ρ' L cL S : List Nat} {M : ax_M} {F : ax_F} {Y : ax_Y} {n th i : Nat} {T U : Int32} {h0 hh : sx_H} {cb sb cs ss : Nat} (hp : ax_ρl N i T U <+: ρ') (X : ax_X (ax_Wl N sy h0 cb sb) ρ' M F Y n th hh cs ss) (HL : ax_Ls ρ' L cL) (h : ax_bw ax_lI L S M Y n = true) (hi : i + 6 ≤ N) (hN : N ≤ 3072) : S = [] ∧ ax_Lw N (i + 6) cL hh := by
  have h : sx_and (List.rec true (fun _ _ _ => false) S) (sx_and (ax_le7 L (ax_L0 4503599630516233)) (sx_and (Option.rec false (fun v => Option.rec false (fun u => sx_and (ax_ii v u) (ax_nm Y n v (fun v => ax_nm Y n u (fun u => Nat.beq v u)))) (ax_mg M 148 (Nat.mul 8 8))) (ax_mg M 1 (Nat.mul 8 1))) (sx_and (Option.rec false (fun v => Option.rec false (fun u => sx_and (ax_ii v u) (ax_nm Y n v (fun v => ax_nm Y n u (fun u => Nat.beq v u)))) (ax_mg M 148 (Nat.mul 8 3))) (ax_mg M 0 (Nat.mul 8 15))) true))) = true := h
  obtain ⟨a1, h⟩ := sx_and_ok h
  obtain ⟨a2, h⟩ := sx_and_ok h
  obtain ⟨a3, h⟩ := sx_and_ok h
  obtain ⟨a4, -⟩ := sx_and_ok h
  obtain ⟨c4, x5, x6, e, v4, n5, n6⟩ := ax_L0_of a2 HL (by decide)
  have J : ax_J ρ' 4503599630516233 (2147483648 + (i + 6)) := by
    have j1 : ax_J (ax_ρl N i T U) 4503599630516233 (2147483648 + (i + 6)) := ⟨by omega, Or.inr ⟨by decide, 2147483648 + i, rfl, by show 2147483648 + (i + 6) + 8589934592 = 2147483648 + i + 8589934598; omega⟩⟩
    exact j1.mono hp
  obtain ⟨P, jP, eP⟩ := v4.toInt (by decide)
  have eb := jP.uniq J
  have e4 : c4 = 8 * (i + 6) := by
    rw [eP, ax_i_eq]
    have t := ax_b_tn P
    have l := P.toBitVec.isLt
    omega
  exact ⟨ax_nil_t a1, hi, X.hs, ⟨x5, x6, by rw [e, e4], n5, n6⟩, ax_pair X (by decide) (by decide) a3, ax_pair X (by decide) (by decide) a4⟩
theorem ax_i_8 {P : Int32} {i : Nat} (h : sx_b P = 2147483648 + i) : sx_i P = 8 * i := by
  rw [ax_i_eq]
  have t := ax_b_tn P
  have l := P.toBitVec.isLt
  have l2 := sx_b_lt P
  omega
end AXLw
