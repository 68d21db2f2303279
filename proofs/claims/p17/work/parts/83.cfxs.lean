/-! fx: the class takes words, signs, numbers -/
/-- the class stands at f -/
def cSt (T : Int → Int) (E : Int) (g : Nat → Nat → Int) (f : Int) : Prop := CT T E g ∧ g 28 2 = f ∧ g 28 3 = pBh T E f ∧ pOk T E f
theorem cSt_at {T : Int → Int} {E : Int} {g : Nat → Nat → Int} {f : Int} (h : CT T E g) (hf : pOk T E f) : cSt T E (cAt T E g f) f := ⟨CT_fu (CT_fu h (by decide) (by decide)) (by decide) (by decide), by unfold cAt; rw [fu_nj (by decide), fu_eq], by unfold cAt; rw [fu_eq], hf⟩
theorem cAt_at {T : Int → Int} {E : Int} {g : Nat → Nat → Int} {f f' : Int} : cAt T E (cAt T E g f) f' = cAt T E g f' := by
  unfold cAt
  rw [fu_sw _ _ _ (by decide), fu_fu, fu_sw _ _ _ (by decide), fu_fu]
theorem cAt_self {T : Int → Int} {E : Int} {g : Nat → Nat → Int} {f : Int} (h : cSt T E g f) : cAt T E g f = g := by
  unfold cAt
  obtain ⟨-, h1, h2, -⟩ := h
  rw [← h2, ← h1, fu_self, fu_self]
theorem pOk_bh {T : Int → Int} {E f : Int} (h : pOk T E f) : pOk T E (pSk T E (pBh T E f)) := pOk_sk (by have := pBh_b (T := T) h.2.1; have := h.1; omega) (pBh_b h.2.1).2
section FXS
variable {W : ax_W} {r : Nat} {g : Nat → Nat → Int} {Q : Nat → Nat → (Nat → Nat → Int) → Prop} {T : Int → Int} {E : Int} {s : Nat} {f : Int}
theorem sp_advS (h : cSt T E g f) (kq : Q 0 0 (cAt T E g (pSk T E (pBh T E f)))) : fx W r 0 74 0 [226, 7] [] g Q := by
  obtain ⟨h1, h2, h3, h4⟩ := h
  have b := pBh_b (T := T) h4.2.1
  have c := h4.1
  refine sp_advance h1 (by omega) (by omega) ?_
  rw [h3]
  exact kq
theorem sp_isWord_1 (h : cSt T E g f) (hs : f_sk s) (hl : pBh T E f - f = (fStr s).length) : ∀ (n i : Nat), i + n = (fStr s).length → (∀ k : Nat, k < i → T (f + k) = ((fStr s).getD k 0 : Nat)) → ((∀ k : Nat, k < (fStr s).length → T (f + k) = ((fStr s).getD k 0 : Nat)) → Q 1 (fI 1) g) → (¬ (∀ k : Nat, k < (fStr s).length → T (f + k) = ((fStr s).getD k 0 : Nat)) → Q 1 (fI 0) g) → fx W r 4 79 23 [226, s, fI (f + i)] [] g Q
  | n, i, hn, hi, k1, k2 => by
    obtain ⟨hc, h2, h3, h4⟩ := h
    have hs2 := hs.2.2.1
    have a3 := hc.2.2.1
    have b := pBh_b (T := T) h4.2.1
    have f0 := h4.1
    have f1 := h4.2.1
    refine fx_rg (fun hg => ?_)
    refine fx_li 2 24 (by decide +kernel) rfl ?_
    refine fx_la 0 25 (v := 226) (by decide +kernel) rfl (by decide +kernel) ?_
    refine fx_gi 226 28 3 28 (by decide +kernel) ?_
    refine fx_ige 61 31 (by decide +kernel) (by unfold fR; omega) (by first | exact hg 28 3 (by decide) (by decide +kernel) (by decide +kernel) | (unfold fR; omega)) (fun h28 => ?_) (fun h28 => ?_)
    · refine fx_ci (1) 62 (by decide +kernel) ?_
      refine fx_retb (by decide +kernel) (by first | exact Or.inl rfl | exact Or.inr rfl | omega) ?_
      exact k1 (fun k hk => hi k (by omega))
    · refine fx_la 0 32 (v := 226) (by decide +kernel) rfl (by decide +kernel) ?_
      refine fx_gp 226 28 0 10 35 (by decide +kernel) ?_
      refine fx_gp 10 1 0 18 38 (by decide +kernel) ?_
      obtain ⟨t1, t2, t3⟩ := CT_t hc (k := f + i) (by omega) (by omega)
      have bv : (fStr s).getD i 0 < 128 := by
        refine hs.2.2.2 _ (List.mem_of_getElem? (i := i) ?_)
        rw [List.getD_eq_getElem?_getD, List.getElem?_eq_getElem (by omega)]
        rfl
      refine fx_li 2 39 (by decide +kernel) rfl ?_
      refine fx_al 18 2 400 40 (by decide +kernel) rfl (by omega) (by omega) rfl ?_
      rw [t1]
      refine fx_la 1 41 (v := s) (by decide +kernel) rfl (f_sty hs) ?_
      refine fx_li 2 42 (by decide +kernel) rfl ?_
      refine fx_la 0 43 (v := 226) (by decide +kernel) rfl (by decide +kernel) ?_
      refine fx_gi 226 28 2 46 (by decide +kernel) ?_
      rw [h2]
      refine fx_sub 47 (by decide +kernel) rfl ?_
      rw [show f + (i : Int) - f = (i : Int) by omega]
      refine fx_c2 82 39 50 3 [] (f_q39 hs.1 (by decide +kernel)) (by decide) (f_s4 hs) (fI_n4 _) rfl (by first | decide | omega) ?_
      refine sp_charAt hs (by omega) (by omega) (fK1 ?_)
      rw [show ((i : Int)).toNat = i from rfl]
      refine fx_ieq 55 53 (by decide +kernel) (by unfold fR; omega) (by unfold fR; omega) (fun h50 => ?_) (fun h50 => ?_)
      · refine fx_inc 2 58 (1) (by decide +kernel) rfl (Or.inr (f_s4 hs)) rfl ?_
        dsimp only [List.set]
        refine fx_go 23 (by decide +kernel) ?_
        match n, hn with
        | 0, hn => exfalso; omega
        | n + 1, hn =>
          rw [show f + (i : Int) + 1 = f + ((i + 1 : Nat) : Int) by omega]
          exact sp_isWord_1 ⟨hc, h2, h3, h4⟩ hs hl n (i + 1) (by omega) (fun k hk => by
            by_cases e : k = i
            · rw [e]; exact h50
            · exact hi k (by omega)) k1 k2
      · refine fx_ci (0) 54 (by decide +kernel) ?_
        refine fx_retb (by decide +kernel) (by first | exact Or.inl rfl | exact Or.inr rfl | omega) ?_
        exact k2 (fun t => h50 (t i (by omega)))
theorem sp_isWord (h : cSt T E g f) (hs : f_sk s) (k1 : (pBh T E f - f = (fStr s).length ∧ ∀ k : Nat, k < (fStr s).length → T (f + k) = ((fStr s).getD k 0 : Nat)) → Q 1 (fI 1) g) (k2 : ¬ (pBh T E f - f = (fStr s).length ∧ ∀ k : Nat, k < (fStr s).length → T (f + k) = ((fStr s).getD k 0 : Nat)) → Q 1 (fI 0) g) : fx W r 4 79 0 [226, s, 7] [] g Q := by
  have hst := h
  obtain ⟨hc, h2, h3, h4⟩ := h
  have hs2 := hs.2.2.1
  have a3 := hc.2.2.1
  have b := pBh_b (T := T) h4.2.1
  have f0 := h4.1
  have f1 := h4.2.1
  refine fx_rg (fun hg => ?_)
  refine fx_la 0 1 (v := 226) (by decide +kernel) rfl (by decide +kernel) ?_
  refine fx_gi 226 28 3 4 (by decide +kernel) ?_
  refine fx_la 0 5 (v := 226) (by decide +kernel) rfl (by decide +kernel) ?_
  refine fx_gi 226 28 2 8 (by decide +kernel) ?_
  refine fx_sub 9 (by decide +kernel) rfl ?_
  refine fx_la 1 10 (v := s) (by decide +kernel) rfl (f_sty hs) ?_
  refine fx_c1 80 39 13 1 [] (f_q39 hs.1 (by decide +kernel)) (f_s4 hs) rfl (by first | decide | omega) ?_
  refine sp_len hs (fK1 ?_)
  rw [h2, h3]
  refine fx_ieq 18 16 (by decide +kernel) (by unfold fR; omega) (by unfold fR; omega) (fun h13 => ?_) (fun h13 => ?_)
  · refine fx_la 0 19 (v := 226) (by decide +kernel) rfl (by decide +kernel) ?_
    refine fx_gi 226 28 2 22 (by decide +kernel) ?_
    try simp only [fu_app, fcy_app, Nat.reduceEqDiff, and_true, and_false, false_and, true_and, if_true, if_false, ite_true, ite_false, reduceIte, Int.reduceToNat, fx_simp0]
    refine fx_si 2 23 (by decide +kernel) (Or.inr (f_s4 hs)) rfl ?_
    dsimp only [List.set]
    rw [h2]
    have := sp_isWord_1 (W := W) (r := r) (Q := Q) hst hs h13 _ 0 (Nat.zero_add _) (fun k hk => absurd hk (Nat.not_lt_zero k)) (fun t => k1 ⟨h13, t⟩) (fun t => k2 (fun q => t q.2))
    rw [show f + ((0 : Nat) : Int) = f by omega] at this
    exact this
  · refine fx_ci (0) 17 (by decide +kernel) ?_
    refine fx_retb (by decide +kernel) (by first | exact Or.inl rfl | exact Or.inr rfl | omega) ?_
    exact k2 (fun t => h13 t.1)
noncomputable def f_lw (ws : List Nat) : Bool := !ws.isEmpty && ws.all (fun b => Nat.ble 97 b && Nat.ble b 122)
theorem sp_takesWord (ws : List Nat) (hw : f_swb s ws = true) (hw2 : f_lw ws = true) (h : cSt T E g f) (k1 : pWd T E ws f → Q 1 (fI 1) (cAt T E g (pSk T E (pWe T E f)))) (k2 : ¬ pWd T E ws f → Q 1 (fI 0) g) : fx W r 5 78 0 [226, s] [] g Q := by
  obtain ⟨hs, he⟩ := f_sw hw
  obtain ⟨l1, l2⟩ := f_and hw2
  have hne : ws ≠ [] := fun t => by rw [t] at l1; cases l1
  have hl : ∀ b ∈ ws, 97 ≤ b ∧ b ≤ 122 := fun b hb => by
    obtain ⟨q1, q2⟩ := f_and (List.all_eq_true.mp l2 b hb)
    exact ⟨sx_ble q1, sx_ble q2⟩
  have hi := pWd_iff (T := T) (E := E) (f := f) h.2.2.2.2.1 hne hl
  refine fx_la 0 1 (v := 226) (by decide +kernel) rfl (by decide +kernel) ?_
  refine fx_la 1 2 (v := s) (by decide +kernel) rfl (f_sty hs) ?_
  refine fx_c2 79 21 5 4 [7] (by decide +kernel) (by decide) (by decide) (f_s4 hs) rfl (by first | decide | omega) ?_
  refine sp_isWord h hs (fun b => fK1 ?_) (fun b => fK1 ?_)
  all_goals rw [he] at b
  · refine fx_zne 10 8 (by decide +kernel) (by unfold fR; omega) (fun _ => ?_) (fun hc => absurd hc (by decide))
    refine fx_la 0 11 (v := 226) (by decide +kernel) rfl (by decide +kernel) ?_
    refine fx_c1 74 21 14 0 [7] (by decide +kernel) (by decide) rfl (by first | decide | omega) ?_
    refine sp_advS h (fK0 ?_)
    refine fx_ci (1) 15 (by decide +kernel) ?_
    refine fx_retb (by decide +kernel) (by first | exact Or.inl rfl | exact Or.inr rfl | omega) ?_
    have w := hi.mp b
    have k1 := k1 w
    have : 0 < ws.length := List.length_pos_iff.mpr hne
    rw [pBh_we (by have := w.1; omega)]
    exact k1
  · refine fx_zne 10 8 (by decide +kernel) (by unfold fR; omega) (fun hc => absurd hc (by decide)) (fun _ => ?_)
    refine fx_ci (0) 9 (by decide +kernel) ?_
    refine fx_retb (by decide +kernel) (by first | exact Or.inl rfl | exact Or.inr rfl | omega) ?_
    exact k2 (fun t => b (hi.mpr t))
theorem sp_takesSign {c : Int} (h : cSt T E g f) (hc : fR c) (hn1 : ¬ (97 ≤ c ∧ c ≤ 122)) (hn2 : ¬ (48 ≤ c ∧ c ≤ 57)) (k1 : f < E ∧ T f = c → Q 1 (fI 1) (cAt T E g (pSk T E (f + 1)))) (k2 : ¬ (f < E ∧ T f = c) → Q 1 (fI 0) g) : fx W r 1 106 0 [226, fI c] [] g Q := by
  have hst := h
  obtain ⟨hct, h2, h3, h4⟩ := h
  have a1 := hct.1
  have a3 := hct.2.2.1
  have f0 := h4.1
  have f1 := h4.2.1
  unfold fR at hc
  refine fx_rg (fun hg => ?_)
  refine fx_la 0 1 (v := 226) (by decide +kernel) rfl (by decide +kernel) ?_
  refine fx_gi 226 28 2 4 (by decide +kernel) ?_
  refine fx_la 0 5 (v := 226) (by decide +kernel) rfl (by decide +kernel) ?_
  refine fx_gi 226 28 4 8 (by decide +kernel) ?_
  refine fx_ige 27 11 (by decide +kernel) (by first | exact hg 28 2 (by decide) (by decide +kernel) (by decide +kernel) | (unfold fR; omega)) (by first | exact hg 28 4 (by decide) (by decide +kernel) (by decide +kernel) | (unfold fR; omega)) (fun h8 => ?_) (fun h8 => ?_)
  · refine fx_ci (0) 28 (by decide +kernel) ?_
    refine fx_retb (by decide +kernel) (by first | exact Or.inl rfl | exact Or.inr rfl | omega) ?_
    exact k2 (fun t => by omega)
  · refine fx_la 0 12 (v := 226) (by decide +kernel) rfl (by decide +kernel) ?_
    refine fx_gp 226 28 0 10 15 (by decide +kernel) ?_
    refine fx_gp 10 1 0 18 18 (by decide +kernel) ?_
    refine fx_la 0 19 (v := 226) (by decide +kernel) rfl (by decide +kernel) ?_
    refine fx_gi 226 28 2 22 (by decide +kernel) ?_
    rw [h2]
    obtain ⟨t1, t2, t3⟩ := CT_t hct f0 (by omega)
    refine fx_al 18 2 400 23 (by decide +kernel) rfl (by omega) (by omega) rfl ?_
    rw [t1]
    refine fx_li 1 24 (by decide +kernel) rfl ?_
    refine fx_ieq 29 27 (by decide +kernel) (by unfold fR; omega) (by unfold fR; omega) (fun h24 => ?_) (fun h24 => ?_)
    · refine fx_la 0 30 (v := 226) (by decide +kernel) rfl (by decide +kernel) ?_
      refine fx_c1 74 21 33 0 [7] (by decide +kernel) (by decide) rfl (by first | decide | omega) ?_
      refine sp_advS hst (fK0 ?_)
      refine fx_ci (1) 34 (by decide +kernel) ?_
      refine fx_retb (by decide +kernel) (by first | exact Or.inl rfl | exact Or.inr rfl | omega) ?_
      rw [pBh_sg (by omega) (by omega) (by omega)]
      exact k1 ⟨by omega, h24⟩
    · refine fx_ci (0) 28 (by decide +kernel) ?_
      refine fx_retb (by decide +kernel) (by first | exact Or.inl rfl | exact Or.inr rfl | omega) ?_
      exact k2 (fun t => by omega)
theorem sp_isOver (h : cSt T E g f) (k1 : f = E → Q 1 (fI 1) g) (k2 : f < E → Q 1 (fI 0) g) : fx W r 0 76 0 [226] [] g Q := by
  obtain ⟨hct, h2, h3, h4⟩ := h
  have a1 := hct.1
  have f1 := h4.2.1
  refine fx_rg (fun hg => ?_)
  refine fx_la 0 1 (v := 226) (by decide +kernel) rfl (by decide +kernel) ?_
  refine fx_gi 226 28 2 4 (by decide +kernel) ?_
  refine fx_la 0 5 (v := 226) (by decide +kernel) rfl (by decide +kernel) ?_
  refine fx_gi 226 28 4 8 (by decide +kernel) ?_
  refine fx_ilt 15 11 (by decide +kernel) (by first | exact hg 28 2 (by decide) (by decide +kernel) (by decide +kernel) | (unfold fR; omega)) (by first | exact hg 28 4 (by decide) (by decide +kernel) (by decide +kernel) | (unfold fR; omega)) (fun h8 => ?_) (fun h8 => ?_)
  · refine fx_ci (0) 16 (by decide +kernel) ?_
    refine fx_retb (by decide +kernel) (by first | exact Or.inl rfl | exact Or.inr rfl | omega) ?_
    first | exact k1 (by omega) | exact k2 (by omega)
  · refine fx_ci (1) 12 (by decide +kernel) ?_
    refine fx_go 16 (by decide +kernel) ?_
    refine fx_retb (by decide +kernel) (by first | exact Or.inl rfl | exact Or.inr rfl | omega) ?_
    first | exact k1 (by omega) | exact k2 (by omega)
theorem sp_wrongAt {w : Int} (hw : fR w) (kq : Q 1 (fI 0) (fu g 28 1 w)) : fx W r 0 92 0 [226, fI w] [] g Q := by
  unfold fR at hw
  refine fx_la 0 1 (v := 226) (by decide +kernel) rfl (by decide +kernel) ?_
  refine fx_li 1 2 (by decide +kernel) rfl ?_
  refine fx_pi 226 28 1 5 (by decide +kernel) (by unfold fR; omega) ?_
  refine fx_ci (0) 6 (by decide +kernel) ?_
  refine fx_retb (by decide +kernel) (by first | exact Or.inl rfl | exact Or.inr rfl | omega) ?_
  exact kq
theorem sp_digits (h : cSt T E g f) (kq : Q 1 (fI (pDg T E f - f)) g) : fx W r 0 94 0 [226, 7] [] g Q := by
  obtain ⟨hct, h2, h3, h4⟩ := h
  have a1 := hct.1
  have a3 := hct.2.2.1
  have f0 := h4.1
  have f1 := h4.2.1
  have d0 := pDg_ge T E f
  have d1 := pDg_le (T := T) f1
  refine fx_rg (fun hg => ?_)
  have z : (E ≤ f ∨ ¬ (48 ≤ T f ∧ T f ≤ 57)) → Q 1 (fI 0) g := fun t => by
    have e : pDg T E f = f := by
      rcases t with t | t
      · exact prun_stop t
      · exact prun_no (isDi_f t)
    rw [e, show f - f = 0 by omega] at kq
    exact kq
  refine fx_la 0 1 (v := 226) (by decide +kernel) rfl (by decide +kernel) ?_
  refine fx_gi 226 28 2 4 (by decide +kernel) ?_
  refine fx_la 0 5 (v := 226) (by decide +kernel) rfl (by decide +kernel) ?_
  refine fx_gi 226 28 4 8 (by decide +kernel) ?_
  refine fx_ige 49 11 (by decide +kernel) (by first | exact hg 28 2 (by decide) (by decide +kernel) (by decide +kernel) | (unfold fR; omega)) (by first | exact hg 28 4 (by decide) (by decide +kernel) (by decide +kernel) | (unfold fR; omega)) (fun h8 => ?_) (fun h8 => ?_)
  · refine fx_ci (0) 50 (by decide +kernel) ?_
    refine fx_si 1 51 (by decide +kernel) (Or.inr (f_n4p (v := 226) rfl (by decide))) rfl ?_
    dsimp only [List.set]
    refine fx_li 1 52 (by decide +kernel) rfl ?_
    refine fx_zeq 67 55 (by decide +kernel) (by unfold fR; omega) (fun _ => ?_) (fun hc => absurd hc (by decide))
    refine fx_ci (0) 68 (by decide +kernel) ?_
    refine fx_ret (by decide +kernel) ?_
    exact z (Or.inl (by omega))
  · refine fx_la 0 12 (v := 226) (by decide +kernel) rfl (by decide +kernel) ?_
    refine fx_gp 226 28 0 10 15 (by decide +kernel) ?_
    refine fx_gp 10 1 0 18 18 (by decide +kernel) ?_
    refine fx_la 0 19 (v := 226) (by decide +kernel) rfl (by decide +kernel) ?_
    refine fx_gi 226 28 2 22 (by decide +kernel) ?_
    rw [h2]
    obtain ⟨t1, t2, t3⟩ := CT_t hct f0 (by omega)
    refine fx_al 18 2 400 23 (by decide +kernel) rfl (by omega) (by omega) rfl ?_
    rw [t1]
    refine fx_ci (48) 25 (by decide +kernel) ?_
    refine fx_ilt 49 28 (by decide +kernel) (by unfold fR; omega) (by unfold fR; omega) (fun h25 => ?_) (fun h25 => ?_)
    · refine fx_ci (0) 50 (by decide +kernel) ?_
      refine fx_si 1 51 (by decide +kernel) (Or.inr (f_n4p (v := 226) rfl (by decide))) rfl ?_
      dsimp only [List.set]
      refine fx_li 1 52 (by decide +kernel) rfl ?_
      refine fx_zeq 67 55 (by decide +kernel) (by unfold fR; omega) (fun _ => ?_) (fun hc => absurd hc (by decide))
      refine fx_ci (0) 68 (by decide +kernel) ?_
      refine fx_ret (by decide +kernel) ?_
      exact z (Or.inr (by omega))
    · refine fx_la 0 29 (v := 226) (by decide +kernel) rfl (by decide +kernel) ?_
      refine fx_gp 226 28 0 10 32 (by decide +kernel) ?_
      refine fx_gp 10 1 0 18 35 (by decide +kernel) ?_
      refine fx_la 0 36 (v := 226) (by decide +kernel) rfl (by decide +kernel) ?_
      refine fx_gi 226 28 2 39 (by decide +kernel) ?_
      rw [h2]
      refine fx_al 18 2 400 40 (by decide +kernel) rfl (by omega) (by omega) rfl ?_
      rw [t1]
      refine fx_ci (57) 42 (by decide +kernel) ?_
      refine fx_igt 49 45 (by decide +kernel) (by unfold fR; omega) (by unfold fR; omega) (fun h42 => ?_) (fun h42 => ?_)
      · refine fx_ci (0) 50 (by decide +kernel) ?_
        refine fx_si 1 51 (by decide +kernel) (Or.inr (f_n4p (v := 226) rfl (by decide))) rfl ?_
        dsimp only [List.set]
        refine fx_li 1 52 (by decide +kernel) rfl ?_
        refine fx_zeq 67 55 (by decide +kernel) (by unfold fR; omega) (fun _ => ?_) (fun hc => absurd hc (by decide))
        refine fx_ci (0) 68 (by decide +kernel) ?_
        refine fx_ret (by decide +kernel) ?_
        exact z (Or.inr (by omega))
      · refine fx_ci (1) 46 (by decide +kernel) ?_
        refine fx_go 50 (by decide +kernel) ?_
        refine fx_si 1 51 (by decide +kernel) (Or.inr (f_n4p (v := 226) rfl (by decide))) rfl ?_
        dsimp only [List.set]
        refine fx_li 1 52 (by decide +kernel) rfl ?_
        refine fx_zeq 67 55 (by decide +kernel) (by unfold fR; omega) (fun hc => absurd hc (by decide)) (fun _ => ?_)
        refine fx_la 0 56 (v := 226) (by decide +kernel) rfl (by decide +kernel) ?_
        refine fx_gi 226 28 3 59 (by decide +kernel) ?_
        refine fx_la 0 60 (v := 226) (by decide +kernel) rfl (by decide +kernel) ?_
        refine fx_gi 226 28 2 63 (by decide +kernel) ?_
        refine fx_sub 64 (by decide +kernel) rfl ?_
        refine fx_go 68 (by decide +kernel) ?_
        refine fx_ret (by decide +kernel) ?_
        rw [h2, h3, pBh_dg (by omega) (by omega)]
        exact kq
theorem sp_takeNumber_1 {lo hi : Int} (h : cSt T E g f) (hd : ∀ k : Nat, k < (pDg T E f - f).toNat → 48 ≤ T (f + k) ∧ T (f + k) ≤ 57) (kq : fx W r 1 93 55 [226, fI lo, fI hi, fI (pDg T E f - f), fI (nv T f (min (pDg T E f - f).toNat 3)), fI ((min (pDg T E f - f).toNat 3 : Nat) : Int)] [] g Q) :
    ∀ (n k : Nat), k + n = min (pDg T E f - f).toNat 3 → fx W r 1 93 11 [226, fI lo, fI hi, fI (pDg T E f - f), fI (nv T f k), fI (k : Int)] [] g Q
  | n, k, hn => by
    obtain ⟨hct, h2, h3, h4⟩ := h
    have a1 := hct.1
    have a3 := hct.2.2.1
    have f0 := h4.1
    have f1 := h4.2.1
    have d0 := pDg_ge T E f
    have d1 := pDg_le (T := T) f1
    have nb := nv_lt (T := T) (f := f) (n := k) (by omega) (fun j hj => hd j (by omega))
    refine fx_rg (fun hg => ?_)
    refine fx_li 5 13 (by decide +kernel) rfl ?_
    refine fx_li 3 14 (by decide +kernel) rfl ?_
    refine fx_ige 55 17 (by decide +kernel) (by unfold fR; omega) (by unfold fR; omega) (fun h14 => ?_) (fun h14 => ?_)
    · have e : k = min (pDg T E f - f).toNat 3 := by omega
      rw [← e] at kq
      exact kq
    · refine fx_li 5 19 (by decide +kernel) rfl ?_
      refine fx_ci (3) 20 (by decide +kernel) ?_
      refine fx_ige 55 23 (by decide +kernel) (by unfold fR; omega) (by unfold fR; omega) (fun h20 => ?_) (fun h20 => ?_)
      · have e : k = min (pDg T E f - f).toNat 3 := by omega
        rw [← e] at kq
        exact kq
      · refine fx_li 4 25 (by decide +kernel) rfl ?_
        refine fx_ci (10) 27 (by decide +kernel) ?_
        refine fx_mul 28 (by decide +kernel) rfl ?_
        refine fx_la 0 29 (v := 226) (by decide +kernel) rfl (by decide +kernel) ?_
        refine fx_gp 226 28 0 10 32 (by decide +kernel) ?_
        refine fx_gp 10 1 0 18 35 (by decide +kernel) ?_
        refine fx_la 0 36 (v := 226) (by decide +kernel) rfl (by decide +kernel) ?_
        refine fx_gi 226 28 2 39 (by decide +kernel) ?_
        refine fx_li 5 41 (by decide +kernel) rfl ?_
        refine fx_add 42 (by decide +kernel) rfl ?_
        rw [h2]
        obtain ⟨t1, t2, t3⟩ := CT_t hct (k := f + k) (by omega) (by omega)
        refine fx_al 18 2 400 43 (by decide +kernel) rfl (by omega) (by omega) rfl ?_
        rw [t1]
        refine fx_add 44 (by decide +kernel) rfl ?_
        refine fx_ci (48) 46 (by decide +kernel) ?_
        refine fx_sub 47 (by decide +kernel) rfl ?_
        refine fx_si 4 49 (by decide +kernel) (Or.inr (fI_n4 _)) rfl ?_
        dsimp only [List.set]
        refine fx_inc 5 52 (1) (by decide +kernel) rfl (Or.inr (fI_n4 _)) rfl ?_
        dsimp only [List.set]
        refine fx_go 11 (by decide +kernel) ?_
        match n, hn with
        | 0, hn => exfalso; omega
        | n + 1, hn =>
          rw [show nv T f k * 10 + T (f + k) - 48 = nv T f (k + 1) from by show _ = 10 * nv T f k + T (f + k) - 48; omega]
          exact sp_takeNumber_1 ⟨hct, h2, h3, h4⟩ hd kq n (k + 1) (by omega)
theorem sp_takeNumber {lo hi : Int} (h : cSt T E g f) (hlo : fR lo) (hhi : fR hi) (k1 : pN T E lo hi f → Q 1 (fI (pNu T E f)) (cAt T E g (pSk T E (pDg T E f)))) (k2 : ¬ pN T E lo hi f → ∀ v, v = -1 → Q 1 (fI v) (fu g 28 1 f)) : fx W r 1 93 0 [226, fI lo, fI hi, 7, 7, 7] [] g Q := by
  have hst := h
  obtain ⟨hct, h2, h3, h4⟩ := h
  have a1 := hct.1
  have a3 := hct.2.2.1
  have f0 := h4.1
  have f1 := h4.2.1
  have d0 := pDg_ge T E f
  have d1 := pDg_le (T := T) f1
  have hd : ∀ k : Nat, k < (pDg T E f - f).toNat → 48 ≤ T (f + k) ∧ T (f + k) ≤ 57 := fun k hk => by
    have := prun_all (p := isDi T) (E := E) (i := f) (k := f + k) (by omega) (show f + (k : Int) < pDg T E f by omega)
    exact of_decide_eq_true this
  refine fx_rg (fun hg => ?_)
  unfold fR at hlo hhi
  refine fx_la 0 1 (v := 226) (by decide +kernel) rfl (by decide +kernel) ?_
  refine fx_c1 94 21 4 0 [7] (by decide +kernel) (by decide) rfl (by first | decide | omega) ?_
  refine sp_digits hst (fK1 ?_)
  refine fx_si 3 5 (by decide +kernel) (Or.inr (fI_n4 _)) rfl ?_
  dsimp only [List.set]
  refine fx_ci (0) 6 (by decide +kernel) ?_
  refine fx_si 4 8 (by decide +kernel) (Or.inr (fI_n4 _)) rfl ?_
  dsimp only [List.set]
  refine fx_ci (0) 9 (by decide +kernel) ?_
  refine fx_si 5 11 (by decide +kernel) (Or.inr (fI_n4 _)) rfl ?_
  dsimp only [List.set]
  refine sp_takeNumber_1 hst hd ?_ _ 0 (Nat.zero_add _)
  have nb := nv_lt (T := T) (f := f) (n := min (pDg T E f - f).toNat 3) (by omega) (fun j hj => hd j (by omega))
  have mn : (pDg T E f - f).toNat ≤ 3 → min (pDg T E f - f).toNat 3 = (pDg T E f - f).toNat := fun t => by omega
  refine fx_li 3 56 (by decide +kernel) rfl ?_
  refine fx_ci (1) 57 (by decide +kernel) ?_
  refine fx_ilt 77 60 (by decide +kernel) (by unfold fR; omega) (by unfold fR; omega) (fun h57 => ?_) (fun h57 => ?_)
  · refine fx_la 0 78 (v := 226) (by decide +kernel) rfl (by decide +kernel) ?_
    refine fx_la 0 79 (v := 226) (by decide +kernel) rfl (by decide +kernel) ?_
    refine fx_gi 226 28 2 82 (by decide +kernel) ?_
    rw [h2]
    refine fx_pi 226 28 1 85 (by decide +kernel) (by first | exact hg 28 2 (by decide) (by decide +kernel) (by decide +kernel) | (unfold fR; omega)) ?_
    refine fx_ci (-1) 86 (by decide +kernel) ?_
    refine fx_ret (by decide +kernel) ?_
    refine k2 (fun t => ?_) _ rfl
    obtain ⟨t1, t2, t3, t4⟩ := t
    have ev : nv T f (min (pDg T E f - f).toNat 3) = nv T f (pDg T E f - f).toNat := by rw [mn (by omega)]
    omega
  · refine fx_li 3 61 (by decide +kernel) rfl ?_
    refine fx_ci (3) 62 (by decide +kernel) ?_
    refine fx_igt 77 65 (by decide +kernel) (by unfold fR; omega) (by unfold fR; omega) (fun h62 => ?_) (fun h62 => ?_)
    · refine fx_la 0 78 (v := 226) (by decide +kernel) rfl (by decide +kernel) ?_
      refine fx_la 0 79 (v := 226) (by decide +kernel) rfl (by decide +kernel) ?_
      refine fx_gi 226 28 2 82 (by decide +kernel) ?_
      rw [h2]
      refine fx_pi 226 28 1 85 (by decide +kernel) (by first | exact hg 28 2 (by decide) (by decide +kernel) (by decide +kernel) | (unfold fR; omega)) ?_
      refine fx_ci (-1) 86 (by decide +kernel) ?_
      refine fx_ret (by decide +kernel) ?_
      refine k2 (fun t => ?_) _ rfl
      obtain ⟨t1, t2, t3, t4⟩ := t
      have ev : nv T f (min (pDg T E f - f).toNat 3) = nv T f (pDg T E f - f).toNat := by rw [mn (by omega)]
      omega
    · refine fx_li 4 67 (by decide +kernel) rfl ?_
      refine fx_li 1 68 (by decide +kernel) rfl ?_
      refine fx_ilt 77 71 (by decide +kernel) (by unfold fR; omega) (by unfold fR; omega) (fun h68 => ?_) (fun h68 => ?_)
      · refine fx_la 0 78 (v := 226) (by decide +kernel) rfl (by decide +kernel) ?_
        refine fx_la 0 79 (v := 226) (by decide +kernel) rfl (by decide +kernel) ?_
        refine fx_gi 226 28 2 82 (by decide +kernel) ?_
        rw [h2]
        refine fx_pi 226 28 1 85 (by decide +kernel) (by first | exact hg 28 2 (by decide) (by decide +kernel) (by decide +kernel) | (unfold fR; omega)) ?_
        refine fx_ci (-1) 86 (by decide +kernel) ?_
        refine fx_ret (by decide +kernel) ?_
        refine k2 (fun t => ?_) _ rfl
        obtain ⟨t1, t2, t3, t4⟩ := t
        have ev : nv T f (min (pDg T E f - f).toNat 3) = nv T f (pDg T E f - f).toNat := by rw [mn (by omega)]
        omega
      · refine fx_li 4 73 (by decide +kernel) rfl ?_
        refine fx_li 2 74 (by decide +kernel) rfl ?_
        refine fx_ile 87 77 (by decide +kernel) (by unfold fR; omega) (by unfold fR; omega) (fun h74 => ?_) (fun h74 => ?_)
        · rw [mn (by omega)] at *
          have dd : 48 ≤ T f ∧ T f ≤ 57 := by
            have := hd 0 (by omega)
            rw [show f + ((0 : Nat) : Int) = f by omega] at this
            exact this
          refine fx_la 0 88 (v := 226) (by decide +kernel) rfl (by decide +kernel) ?_
          refine fx_c1 74 21 91 0 [7] (by decide +kernel) (by decide) rfl (by first | decide | omega) ?_
          refine sp_advS hst (fK0 ?_)
          rw [pBh_dg (by omega) dd]
          refine fx_li 4 93 (by decide +kernel) rfl ?_
          refine fx_ret (by decide +kernel) ?_
          exact k1 ⟨by omega, by omega, h68, h74⟩
        · refine fx_la 0 78 (v := 226) (by decide +kernel) rfl (by decide +kernel) ?_
          refine fx_la 0 79 (v := 226) (by decide +kernel) rfl (by decide +kernel) ?_
          refine fx_gi 226 28 2 82 (by decide +kernel) ?_
          rw [h2]
          refine fx_pi 226 28 1 85 (by decide +kernel) (by first | exact hg 28 2 (by decide) (by decide +kernel) (by decide +kernel) | (unfold fR; omega)) ?_
          refine fx_ci (-1) 86 (by decide +kernel) ?_
          refine fx_ret (by decide +kernel) ?_
          refine k2 (fun t => ?_) _ rfl
          obtain ⟨t1, t2, t3, t4⟩ := t
          have ev : nv T f (min (pDg T E f - f).toNat 3) = nv T f (pDg T E f - f).toNat := by rw [mn (by omega)]
          omega
end FXS
