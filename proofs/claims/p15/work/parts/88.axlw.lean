/-! ax: the law, round by round -/
/-- where the law stands before round i -/
def ax_Lw (N i : Nat) (cL : List Nat) (hh : sx_H) : Prop := i ≤ N ∧ ax_Hs hh ∧ (∃ x5 x6, cL = [5, 2, 1186, 1274, 8 * i, x5, x6] ∧ x5 % 8 ≠ 4 ∧ x6 % 8 ≠ 4) ∧ sx_get (sx_rd hh 1).2 1 = sx_get (sx_rd hh 148).2 8
/-- the tape's length -/
theorem ax_tape {hh : sx_H} (h : ax_Hs hh) : ∃ T, sx_get (sx_rd hh 1).2 1 = sx_i T ∧ 2147483648 ≤ sx_b T ∧ sx_b T ≤ 2147484048 := by
  obtain ⟨s, h1, h2⟩ := h.pk 1 1 (by decide) (by decide +kernel)
  have e : ax_sg (ax_cl 1).2.2 (1 % (ax_cl 1).2.1) (1 % (ax_cl 1).2.1) = some (2, 0, 2147483648, 2147484048, 0, 0) := by decide +kernel
  cases e.symm.trans h1
  rcases h2 with ⟨-, T, k1, k2, k3⟩ | ⟨k, -⟩ | ⟨k, -⟩ | ⟨k, -⟩ | ⟨k, -⟩
  · exact ⟨T, k1, k2, k3⟩
  all_goals cases k
def ax_L0 (a : Nat) : List Nat := [5, 2, 1186, 1274, a, 7, 7]
def ax_Y0 : ax_Y := [(2147483648, 2147484048, 0, 0, 0, 0), (2147483648, 2147486720, 0, 0, 0, 0), (2147483648, 2147486720, 0, 0, 0, 0)]
def ax_M0 : ax_M := [(1, 8, 4503599627370513), (148, 64, 4503599627370513)]
theorem ax_L0_ok {ρ : List Nat} {i c4 x5 x6 a : Nat} (h4 : ax_V ρ a c4) (h5 : x5 % 8 ≠ 4) (h6 : x6 % 8 ≠ 4) (hi : c4 = 8 * i) : ax_Ls ρ (ax_L0 a) [5, 2, 1186, 1274, 8 * i, x5, x6] := by
  subst hi
  exact ⟨ax_V.ref ⟨by decide, by decide, by decide, by decide⟩, ax_V.ref ⟨by decide, by decide, by decide, by decide⟩, ax_V.ref ⟨by decide, by decide, by decide, by decide⟩, ax_V.ref ⟨by decide, by decide, by decide, by decide⟩, h4, Or.inr (Or.inr (Or.inl ⟨rfl, h5⟩)), Or.inr (Or.inr (Or.inl ⟨rfl, h6⟩)), True.intro⟩
theorem ax_two_eq {ρ : List Nat} {Y : ax_Y} {n v u c1 c0 : Nat} (hY : ax_Yk ρ Y n) (hii : ax_ii v u = true) (h : ax_nm Y n v (fun v => ax_nm Y n u (fun u => Nat.beq v u)) = true) (h1 : ax_V ρ v c1) (h0 : ax_V ρ u c0) : c1 = c0 := by
  obtain ⟨P, Q, jp, jq, rfl, rfl⟩ := ax_ii_ok h1 h0 hii
  rcases ax_nm_eq hY h h1 h0 with q | ⟨-, q⟩
  · subst q
    rw [sx_b_inj (jp.uniq jq)]
  · exact q
/-- and back -/
theorem ax_L0_of {ρ L cL : List Nat} {a : Nat} (h : ax_le7 L (ax_L0 a) = true) (HL : ax_Ls ρ L cL) (ha : a % 8 = 1) : ∃ c4 x5 x6, cL = [5, 2, 1186, 1274, c4, x5, x6] ∧ ax_V ρ a c4 ∧ x5 % 8 ≠ 4 ∧ x6 % 8 ≠ 4 := by
  obtain ⟨h1, h2⟩ := ax_le7_ok h
  have hl := HL.len
  have h1 : L.length = 7 := h1
  rw [h1] at hl
  match cL, hl, HL with
  | [c0, c1, c2, c3, c4, c5, c6], _, HL =>
    have ref : ∀ {k i v : Nat}, sx_ln (ax_L0 a) i = k → k ≠ 39 → k ≠ 7 → k ≠ 23 → 2 ≤ k % 8 → k % 8 ≤ 6 → ax_V ρ (sx_ln L i) v → v = k := by
      intro k i v e n1 n2 n3 t1 t2 hv
      rcases h2 i with q | ⟨q, -⟩ | ⟨q, -⟩ | q
      · exact absurd (e.symm.trans q) n1
      · exact absurd (e.symm.trans q) n2
      · exact absurd (e.symm.trans q) n3
      · rw [q, e] at hv
        exact (hv.toRef t1 t2).2
    have e0 : c0 = 5 := ref (i := 0) rfl (by decide) (by decide) (by decide) (by decide) (by decide) (HL.ln 0)
    have e1 : c1 = 2 := ref (i := 1) rfl (by decide) (by decide) (by decide) (by decide) (by decide) (HL.ln 1)
    have e2 : c2 = 1186 := ref (i := 2) rfl (by decide) (by decide) (by decide) (by decide) (by decide) (HL.ln 2)
    have e3 : c3 = 1274 := ref (i := 3) rfl (by decide) (by decide) (by decide) (by decide) (by decide) (HL.ln 3)
    subst e0 e1 e2 e3
    have nl : ∀ {i v : Nat}, sx_ln (ax_L0 a) i = 7 → ax_V ρ (sx_ln L i) v → v % 8 ≠ 4 := by
      intro i v e hv
      rcases h2 i with q | ⟨-, q⟩ | ⟨q, -⟩ | q
      · exact absurd (e.symm.trans q) (by decide)
      · exact hv.nl q
      · exact absurd (e.symm.trans q) (by decide)
      · rw [q, e] at hv
        exact hv.nl (by decide)
    refine ⟨c4, c5, c6, rfl, ?_, nl (i := 5) rfl (HL.ln 5), nl (i := 6) rfl (HL.ln 6)⟩
    have h4 := HL.ln 4
    rcases h2 4 with q | ⟨q, -⟩ | ⟨q, -⟩ | q
    · have q : a = 39 := q
      omega
    · have q : a = 7 := q
      omega
    · have q : a = 23 := q
      omega
    · rw [q] at h4
      exact h4
section AXLw
variable {N : Nat} {sy : sx_Y}
def ax_Wl (N : Nat) (sy : sx_Y) (hh : sx_H) (cs ss : Nat) : ax_W := (N, sy, hh, ax_all, cs, ss, 2, 4503599627370497)
def ax_ρl (N i : Nat) (T : Int32) : List Nat := [2147483648 + N, 2147483648 + i, sx_b T]
theorem ax_l_Yk {i : Nat} {T : Int32} (hN : N ≤ 3072) (hi : i ≤ N) (h1 : 2147483648 ≤ sx_b T) (h2 : sx_b T ≤ 2147484048) : ax_Yk (ax_ρl N i T) ax_Y0 3 := by
  have h0 : ax_Yk [] [] 0 := ⟨rfl, rfl, fun k r e hk => by cases hk⟩
  have a1 := h0.cons (ax_En.plain (lo := 2147483648) (hi := 2147486720) (r := 2147483648 + N) (by omega) (by omega) (by omega))
  have a2 := a1.cons (ax_En.plain (lo := 2147483648) (hi := 2147486720) (r := 2147483648 + i) (by omega) (by omega) (by omega))
  exact a2.cons (ax_En.plain (lo := 2147483648) (hi := 2147484048) (r := sx_b T) h1 h2 (sx_b_lt T))
theorem ax_l_J0 {i : Nat} {T : Int32} (hN : N ≤ 3072) : ax_J (ax_ρl N i T) 4503599627370497 (2147483648 + N) := ⟨by omega, Or.inr ⟨by decide, 2147483648 + N, rfl, by show 2147483648 + N + 8589934592 = 2147483648 + N + 8589934592; rfl⟩⟩
theorem ax_l_J1 {i : Nat} {T : Int32} (hi : i ≤ 3072) : ax_J (ax_ρl N i T) 4503599627370505 (2147483648 + i) := ⟨by omega, Or.inr ⟨by decide, 2147483648 + i, rfl, by show 2147483648 + i + 8589934592 = 2147483648 + i + 8589934592; rfl⟩⟩
theorem ax_l_J2 {i : Nat} {T : Int32} : ax_J (ax_ρl N i T) 4503599627370513 (sx_b T) := ⟨sx_b_lt T, Or.inr ⟨by decide, sx_b T, rfl, by show sx_b T + 8589934592 = sx_b T + 8589934592; rfl⟩⟩
theorem ax_l_X {i : Nat} {T : Int32} {F : ax_F} {hh : sx_H} {h0 : sx_H} {cb sb cs ss : Nat} (hN : N ≤ 3072) (hi : i ≤ N) (hs : ax_Hs hh) (hT : sx_get (sx_rd hh 1).2 1 = sx_i T) (hT2 : sx_get (sx_rd hh 148).2 8 = sx_i T) (h1 : 2147483648 ≤ sx_b T) (h2 : sx_b T ≤ 2147484048) (hF : ax_Fk (ax_ρl N i T) F) (hfr : ax_Fr h0 ax_all hh) (r1 : cs ≤ cb) (r2 : ss ≤ sb) : ax_X (ax_Wl N sy h0 cb sb) (ax_ρl N i T) ax_M0 F ax_Y0 3 0 hh cs ss := by
  refine ⟨ax_l_Yk hN hi h1 h2, hF, ?_, hs, hfr, fun _ => ax_l_J0 hN, r1, r2, Nat.le_trans r1 (Nat.le_add_right _ _), Nat.le_trans r2 (Nat.le_add_right _ _)⟩
  intro m hm
  rcases List.mem_cons.mp hm with rfl | hm
  · exact Or.inr ⟨by decide, 1, by decide +kernel, ax_J_n (j := 1) (by decide), fun _ => rfl, by rw [hT]; exact ax_V.int ax_l_J2⟩
  · rcases List.mem_cons.mp hm with rfl | hm
    · exact Or.inr ⟨by decide, 8, by decide +kernel, ax_J_n (j := 8) (by decide), fun _ => rfl, by rw [hT2]; exact ax_V.int ax_l_J2⟩
    · cases hm
/-- one case of the law -/
def ax_Cs (N : Nat) (sy : sx_Y) (pc d : Nat) : Prop := ∃ g fuel, ax_case g d pc fuel = true ∧ ax_Gv N sy g ∧ g.1 = ax_all ∧ g.2.2.2.2.2.1 = 4503599627370497 ∧ g.2.2.2.2.2.2.1 = 2
theorem ax_bw_ok {ρ' L cL S : List Nat} {M : ax_M} {F : ax_F} {Y : ax_Y} {n th i : Nat} {T : Int32} {h0 hh : sx_H} {cb sb cs ss : Nat} (hp : ax_ρl N i T <+: ρ') (X : ax_X (ax_Wl N sy h0 cb sb) ρ' M F Y n th hh cs ss) (HL : ax_Ls ρ' L cL) (h : ax_bw ax_lI L S M Y n = true) (hi : i + 6 ≤ N) (hN : N ≤ 3072) : S = [] ∧ ax_Lw N (i + 6) cL hh := by
  have h : sx_and (List.rec true (fun _ _ _ => false) S) (sx_and (ax_le7 L (ax_L0 4503599630516233)) (sx_and (Option.rec false (fun v => Option.rec false (fun u => sx_and (ax_ii v u) (ax_nm Y n v (fun v => ax_nm Y n u (fun u => Nat.beq v u)))) (ax_mg M 148 (Nat.mul 8 8))) (ax_mg M 1 (Nat.mul 8 1))) true)) = true := h
  obtain ⟨a1, h⟩ := sx_and_ok h
  obtain ⟨a2, h⟩ := sx_and_ok h
  obtain ⟨a3, -⟩ := sx_and_ok h
  obtain ⟨c4, x5, x6, e, v4, n5, n6⟩ := ax_L0_of a2 HL (by decide)
  have J : ax_J ρ' 4503599630516233 (2147483648 + (i + 6)) := by
    have j1 : ax_J (ax_ρl N i T) 4503599630516233 (2147483648 + (i + 6)) := ⟨by omega, Or.inr ⟨by decide, 2147483648 + i, rfl, by show 2147483648 + (i + 6) + 8589934592 = 2147483648 + i + 8589934598; omega⟩⟩
    exact j1.mono hp
  obtain ⟨P, jP, eP⟩ := v4.toInt (by decide)
  have eb := jP.uniq J
  have e4 : c4 = 8 * (i + 6) := by
    rw [eP, ax_i_eq]
    have t := ax_b_tn P
    have l := P.toBitVec.isLt
    omega
  refine ⟨ax_nil_t a1, hi, X.hs, ⟨x5, x6, by rw [e, e4], n5, n6⟩, ?_⟩
  cases m1 : ax_mg M 1 (Nat.mul 8 1) with
  | none => rw [m1] at a3; cases a3
  | some v =>
    rw [m1] at a3
    cases m2 : ax_mg M 148 (Nat.mul 8 8) with
    | none => rw [m2] at a3; cases a3
    | some u =>
      rw [m2] at a3
      obtain ⟨a3, a4⟩ := sx_and_ok a3
      exact ax_two_eq X.yk a3 a4 (X.mm.pl (by decide) m1).2 (X.mm.pl (by decide) m2).2
/-- the law's own head stands open -/
noncomputable def ax_ls6 (a : List (Nat × Nat × Nat × Nat × Nat × Nat)) : Bool := List.rec false (fun q t _ => List.rec (sx_and (Nat.beq q.1 1) (sx_and (Nat.beq q.2.1 148) (sx_and (Nat.beq q.2.2.1 8) (Nat.beq q.2.2.2.1 1)))) (fun _ _ _ => false) t) a
noncomputable def ax_le0 (a : List Nat) : List Nat → Bool := List.rec (fun b => List.rec true (fun _ _ _ => false) b) (fun x _ ih b => List.rec false (fun y t _ => sx_and (Nat.beq x y) (ih t)) b) a
noncomputable def ax_isl (lst : List ax_I) : Bool := List.rec false (fun e _ _ => sx_and (Nat.beq e.1 23) (sx_and (Nat.beq e.2.1 1) (sx_and (ax_le0 e.2.2.1 (ax_L0 4503599630516233)) (ax_ls6 e.2.2.2.2.1)))) lst
theorem ax_le0_ok : ∀ {a b : List Nat}, ax_le0 a b = true → a = b
  | [], [], _ => rfl
  | [], _ :: _, h => by cases h
  | _ :: _, [], h => by cases h
  | x :: a, y :: b, h => by
    have h : sx_and (Nat.beq x y) (ax_le0 a b) = true := h
    obtain ⟨h1, h2⟩ := sx_and_ok h
    rw [sx_beq h1, ax_le0_ok h2]
theorem ax_isl_ok {lst : List ax_I} (h : ax_isl lst = true) : ∃ e ∈ lst, e.1 = 23 ∧ ∀ L S M F Y n th, ax_bw ax_lI L S M Y n = true → ax_tst e L S M F Y n th = true := by
  cases lst with
  | nil => cases h
  | cons e t =>
    have h : sx_and (Nat.beq e.1 23) (sx_and (Nat.beq e.2.1 1) (sx_and (ax_le0 e.2.2.1 (ax_L0 4503599630516233)) (ax_ls6 e.2.2.2.2.1))) = true := h
    obtain ⟨h1, h⟩ := sx_and_ok h
    obtain ⟨h2, h⟩ := sx_and_ok h
    obtain ⟨h3, h4⟩ := sx_and_ok h
    refine ⟨e, List.mem_cons_self, sx_beq h1, fun L S M F Y n th hb => ?_⟩
    unfold ax_tst
    rw [h2, sx_if_t]
    have e3 := ax_le0_ok h3
    obtain ⟨f1, f2, f3, f4, f5, f6⟩ := e
    have e3 : f3 = ax_L0 4503599630516233 := e3
    subst e3
    have h4 : ax_ls6 f5 = true := h4
    match f5, h4 with
    | [], h4 => cases h4
    | [q], h4 =>
      obtain ⟨q1, q2, q3, q4, q5⟩ := q
      have h4 : sx_and (Nat.beq q1 1) (sx_and (Nat.beq q2 148) (sx_and (Nat.beq q3 8) (Nat.beq q4 1))) = true := h4
      obtain ⟨k1, h4⟩ := sx_and_ok h4
      obtain ⟨k2, h4⟩ := sx_and_ok h4
      obtain ⟨k3, k4⟩ := sx_and_ok h4
      have k1 := sx_beq k1
      have k2 := sx_beq k2
      have k3 := sx_beq k3
      have k4 := sx_beq k4
      subst k1 k2 k3 k4
      exact hb
    | _ :: _ :: _, h4 => cases h4
/-- before a round's case -/
noncomputable def ax_lb0 (l : List (Nat × Nat)) : ax_ih := fun d mi cd lst _ pc L S M F Y n th => sx_if (sx_and (sx_and (Nat.beq mi 0) (sx_and (Nat.beq cd sx_c0) (sx_and (ax_isl lst) (sx_and (Nat.blt n 65536) (Nat.beq th 0))))) (sx_and (List.rec true (fun _ _ _ => false) S)
  (sx_and (Option.rec false (fun v => Option.rec false (fun u => sx_and (ax_ii v u) (ax_nm Y n v (fun v => ax_nm Y n u (fun u => Nat.beq v u)))) (ax_mg M 148 (Nat.mul 8 8))) (ax_mg M 1 (Nat.mul 8 1)))
    (sx_and (sx_and (ax_in Y n 4503599627370505 2147483648 4294967295) (ax_le F Y n 4503599627370505 6 40 4503599627370497)) (sx_and (ax_le7 L (ax_L0 4503599627370505)) (List.rec false (fun q _ ih => sx_if (sx_and (Nat.beq q.1 pc) (Nat.ble q.2 d)) true ih) l)))))) (some []) none
theorem ax_fl_ok {pc d : Nat} : ∀ {l : List (Nat × Nat)}, (List.rec false (fun q _ ih => sx_if (sx_and (Nat.beq q.1 pc) (Nat.ble q.2 d)) true ih) l : Bool) = true → ∃ q ∈ l, q.1 = pc ∧ q.2 ≤ d
  | [], h => by cases h
  | q :: l, h => by
    have h : sx_if (sx_and (Nat.beq q.1 pc) (Nat.ble q.2 d)) true (List.rec false (fun q _ ih => sx_if (sx_and (Nat.beq q.1 pc) (Nat.ble q.2 d)) true ih) l) = true := h
    rcases ax_or h with k | k
    · obtain ⟨k1, k2⟩ := sx_and_ok k
      exact ⟨q, List.mem_cons_self, sx_beq k1, sx_ble k2⟩
    · obtain ⟨q', h1, h2⟩ := ax_fl_ok k
      exact ⟨q', List.mem_cons_of_mem _ h1, h2⟩
theorem ax_i_8 {P : Int32} {i : Nat} (h : sx_b P = 2147483648 + i) : sx_i P = 8 * i := by
  rw [ax_i_eq]
  have t := ax_b_tn P
  have l := P.toBitVec.isLt
  have l2 := sx_b_lt P
  omega
theorem ax_nm_fix (Y : ax_Y) (n a : Nat) : ∃ a', ∀ {α : Type} (K : Nat → α), ax_nm Y n a K = K a' := by
  cases ht : Nat.beq (sx_tg a) 1 with
  | false => exact ⟨a, fun K => by unfold ax_nm; rw [ht, sx_if_f]⟩
  | true =>
    cases he : ax_at Y n (ax_k a) with
    | none => exact ⟨a, fun K => by unfold ax_nm; rw [ht, sx_if_t, he]⟩
    | some e =>
      cases hb : Nat.beq e.1 e.2.1 with
      | false => exact ⟨a, fun K => by unfold ax_nm; rw [ht, sx_if_t, he]; show sx_if (Nat.beq e.1 e.2.1) _ (K a) = K a; rw [hb, sx_if_f]⟩
      | true =>
        refine ⟨Nat.mul 8 (sx_bs (Nat.sub (Nat.add e.1 (ax_o a)) 8589934592)), fun K => ?_⟩
        unfold ax_nm
        rw [ht, sx_if_t, he]
        show sx_if (Nat.beq e.1 e.2.1) (sx_fo (Nat.mul 8 (sx_bs (Nat.sub (Nat.add e.1 (ax_o a)) 8589934592))) K) (K a) = _
        rw [hb, sx_if_t, sx_fo_eq]
theorem ax_o_5 : ax_o 4503599627370505 = 8589934592 := by decide
theorem ax_o_33 : ax_o 4503599630516233 = 8589934598 := by decide
theorem ax_bw_t (Y : ax_Y) (n v : Nat) (hv : v % 8 = 1) : ax_bw ax_lI (ax_L0 4503599630516233) [] [(1, 8, v), (148, 64, v)] Y n = true := by
  obtain ⟨a', h⟩ := ax_nm_fix Y n v
  show sx_and true (sx_and (ax_le7 (ax_L0 4503599630516233) (ax_L0 4503599630516233)) (sx_and (sx_and (ax_ii v v) (ax_nm Y n v (fun v' => ax_nm Y n v (fun u => Nat.beq v' u)))) true)) = true
  rw [h, h, sx_beq_t rfl]
  have e : ax_ii v v = true := by
    unfold ax_ii
    rw [show sx_tg v = 1 from hv]; rfl
  rw [e]
  decide +kernel
theorem ax_sym_t (n : Nat) : ax_sym n % 8 = 1 := by
  have e : ax_sym n = 8 * (n + 562949953421312) + 1 := rfl
  rw [e]; omega
/-- before a case: it ends, if the next round does -/
theorem ax_base_ok {l : List (Nat × Nat)} {h0 : sx_H} {cb sb : Nat} (hN : N ≤ 3072) (wk : ax_Wk (ax_Wl N sy h0 cb sb)) (hC : ∀ q ∈ l, ax_Cs N sy q.1 q.2) : ax_Ok (ax_Wl N sy h0 cb sb) (ax_lb0 l) := by
  intro d mi cd lst fl pc L S M F Y n th outs h D ρ cL cS hh cs ss Post dd X HL HS Pq Hq
  unfold ax_lb0 at h
  obtain ⟨c, -⟩ := ax_if0 h
  obtain ⟨a1, c⟩ := sx_and_ok c
  obtain ⟨a0, a1⟩ := sx_and_ok a1
  obtain ⟨a1, a2⟩ := sx_and_ok a1
  obtain ⟨a8, a2⟩ := sx_and_ok a2
  obtain ⟨a9, a2⟩ := sx_and_ok a2
  obtain ⟨a3, c⟩ := sx_and_ok c
  obtain ⟨a4, c⟩ := sx_and_ok c
  obtain ⟨a5, c⟩ := sx_and_ok c
  obtain ⟨a10, a5⟩ := sx_and_ok a5
  obtain ⟨a6, a7⟩ := sx_and_ok c
  have e1 := sx_beq a0
  have e2 := sx_beq a1
  have e3 := sx_beq a2
  have e4 := ax_nil_t a3
  obtain ⟨ee, ee1, ee2, ee3⟩ := ax_isl_ok a8
  have n6 : n < 65536 := sx_blt a9
  subst e1 e2 e3 e4
  have e5 := HS.nl
  subst e5
  obtain ⟨c4, x5, x6, e, v4, n5, nx6⟩ := ax_L0_of a6 HL (by decide)
  obtain ⟨P, jP, eP⟩ := v4.toInt (by decide)
  have J0 : ax_J ρ 4503599627370497 (2147483648 + N) := X.nv (show (4503599627370497 : Nat) % 8 = 1 by decide)
  have le := ax_le_ok X.yk X.fk jP J0 a5
  have hPn : 2147483648 ≤ sx_b P := (ax_in_ok a10 X.yk jP).1
  obtain ⟨i, -, -, hi⟩ := ax_b_pos hPn
  have hi6 : i + 6 ≤ N := by omega
  have hT : sx_get (sx_rd hh 1).2 1 = sx_get (sx_rd hh 148).2 8 := by
    cases m1 : ax_mg M 1 (Nat.mul 8 1) with
    | none => rw [m1] at a4; cases a4
    | some v =>
      rw [m1] at a4
      cases m2 : ax_mg M 148 (Nat.mul 8 8) with
      | none => rw [m2] at a4; cases a4
      | some u =>
        rw [m2] at a4
        obtain ⟨q1, q2⟩ := sx_and_ok a4
        exact ax_two_eq X.yk q1 q2 (X.mm.pl (by decide) m1).2 (X.mm.pl (by decide) m2).2
  obtain ⟨q, hq, e6, e7⟩ := ax_fl_ok a7
  subst e6
  obtain ⟨g, fuel, hq, hV, hmd, hnv, hlm⟩ := hC q hq
  obtain ⟨T, t1, t2, t3⟩ := ax_tape X.hs
  unfold ax_case at hq
  rw [ax_mtK_eq] at hq
  have e0 : (sx_mt 0).1 = sx_c0 := rfl
  rw [e0] at hq
  generalize hr : ax_run g fuel q.2 0 sx_c0 [ax_lI] false q.1 _ _ _ _ _ _ _ = res at hq
  cases res with
  | none => cases hq
  | some os =>
    have hos : os = [] := by
      cases os with
      | nil => rfl
      | cons a t => cases hq
    subst hos
    have hG : ax_Gk (ax_Wl N sy h0 cb sb) g := ⟨hmd, hnv, hlm⟩
    have hF : ax_Fk (ax_ρl N i T) [(1, 0, 34359738374)] := fun f hf => by
      rcases List.mem_cons.mp hf with rfl | hf
      · exact ⟨2147483648 + i, 2147483648 + N, rfl, rfl, by show 2147483648 + i + 34359738374 ≤ 2147483648 + N + 34359738368; omega⟩
      · cases hf
    have X1 := ax_l_X (sy := sy) (h0 := h0) (cb := cb) (sb := sb) (cs := cs) (ss := ss) hN (by omega) X.hs t1 (hT.symm.trans t1) t2 t3 hF X.fr X.r1 X.r2
    have J1 : ax_J (ax_ρl N i T) 4503599627370505 (sx_b P) := by rw [hi]; exact ax_l_J1 (by omega)
    have HL1 := ax_L0_ok (i := i) (ax_V.int J1) n5 nx6 (ax_i_8 hi)
    rw [e, eP, ax_i_8 hi]
    refine ax_run_ok hG hV wk fuel q.2 0 sx_c0 [ax_lI] false q.1 _ [] _ _ _ 3 0 [] hr D _ _ [] hh cs ss Post (Nat.le_trans e7 dd) X1 HL1 ax_Ls.nil (fun ao ha => by cases ha) ?_
    intro e he ρ' L' S' M' F' Y' n' th' cL' cS' hh' cs' ss' hp X' HL' HS' ht
    rcases List.mem_cons.mp he with rfl | he
    · have ht : ax_bw ax_lI L' S' M' Y' n' = true := ht
      obtain ⟨q1, q2⟩ := ax_bw_ok hp X' HL' ht hi6 hN
      subst q1
      have e := HS'.nl
      subst e
      obtain ⟨-, hs', ⟨y5, y6, el, m5, m6⟩, hT'⟩ := q2
      obtain ⟨T', s1, s2, s3⟩ := ax_tape hs'
      have hp1 : ρ <+: ρ ++ [sx_b T'] := List.prefix_append _ _
      have Y1 := X.yk.cons (ax_En.plain (lo := 2147483648) (hi := 2147484048) (r := sx_b T') s2 s3 (sx_b_lt T'))
      have JT := ax_sym_J n6 X.yk.1 (sx_b_lt T')
      have J6 : ax_J (ρ ++ [sx_b T']) 4503599630516233 (sx_b (Int32.ofNat (i + 6))) := by
        rw [ax_b_n (by omega)]
        obtain ⟨r, w1, w2⟩ := jP.t1 (by decide)
        rw [ax_o_5] at w2
        exact ⟨by omega, Or.inr ⟨by decide, r, sx_pre hp1 w1, by rw [ax_o_33]; omega⟩⟩
      have HL2 := ax_L0_ok (i := i + 6) (ax_V.int J6) m5 m6 (ax_i_8 (ax_b_n (by omega)))
      rw [el]
      rw [show ax_lI.1 = ee.1 from ee2.symm]
      refine Hq ee ee1 (ρ ++ [sx_b T']) (ax_L0 4503599630516233) [] [(1, 8, ax_sym n), (148, 64, ax_sym n)] [] _ _ th' _ [] hh' cs' ss' hp1 ⟨Y1, (fun f hf => by cases hf), ?_, hs', X'.fr, fun z => (X.nv z).mono hp1, X'.r1, X'.r2, X'.r3, X'.r4⟩ HL2 ax_Ls.nil ?_
      · intro m hm
        rcases List.mem_cons.mp hm with rfl | hm
        · exact Or.inr ⟨show (1 : Nat) < 160 by decide, 1, show 1 < (ax_cl 1).1 / 256 by decide +kernel, ax_J_n (j := 1) (by decide), fun _ => rfl, by rw [s1]; exact ax_V.int JT⟩
        · rcases List.mem_cons.mp hm with rfl | hm
          · exact Or.inr ⟨show (148 : Nat) < 160 by decide, 8, show 8 < (ax_cl 148).1 / 256 by decide +kernel, ax_J_n (j := 8) (by decide), fun _ => rfl, by rw [← hT', s1]; exact ax_V.int JT⟩
          · cases hm
      · exact ee3 _ _ _ _ _ _ _ (ax_bw_t _ _ _ (ax_sym_t n))
    · cases he
end AXLw
