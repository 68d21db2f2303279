/-! joined: 83.ch04g5s 83.ch05g5a 83.ch06g5b 83.ch07g5c 83.ch08g5d 83.ch09g5e 83.ch10g5f -/
section
/-! fx: the class takes words, signs, numbers -/
/-- the class stands at f -/
def cStL (T : Int → Int) (E : Int) (g : Nat → Nat → Int) (f : Int) : Prop := CTL T E g ∧ g 34 2 = f ∧ g 34 3 = pBh T E f ∧ pOk T E f
theorem cSt_atL {T : Int → Int} {E : Int} {g : Nat → Nat → Int} {f : Int} (h : CTL T E g) (hf : pOk T E f) : cStL T E (cAtL T E g f) f := ⟨CT_fuL (CT_fuL h (by decide) (by decide)) (by decide) (by decide), by unfold cAtL; rw [fu_nj (by decide), fu_eq], by unfold cAtL; rw [fu_eq], hf⟩
theorem cAt_atL {T : Int → Int} {E : Int} {g : Nat → Nat → Int} {f f' : Int} : cAtL T E (cAtL T E g f) f' = cAtL T E g f' := by
  unfold cAtL
  rw [fu_sw _ _ _ (by decide), fu_fu, fu_sw _ _ _ (by decide), fu_fu]
theorem cAt_selfL {T : Int → Int} {E : Int} {g : Nat → Nat → Int} {f : Int} (h : cStL T E g f) : cAtL T E g f = g := by
  unfold cAtL
  obtain ⟨-, h1, h2, -⟩ := h
  rw [← h2, ← h1, fu_self, fu_self]
theorem pOk_bhL {T : Int → Int} {E f : Int} (h : pOk T E f) : pOk T E (pSk T E (pBh T E f)) := pOk_sk (by have := pBh_b (T := T) h.2.1; have := h.1; omega) (pBh_b h.2.1).2
section FXSL
variable {W : ax_W} {r : Nat} {g : Nat → Nat → Int} {Q : Nat → Nat → (Nat → Nat → Int) → Prop} {T : Int → Int} {E : Int} {s : Nat} {f : Int}
theorem sp_advSL (h : cStL T E g f) (kq : Q 0 0 (cAtL T E g (pSk T E (pBh T E f)))) : fx W r 0 74 0 [274, 7] [] g Q := by
  obtain ⟨h1, h2, h3, h4⟩ := h
  have b := pBh_b (T := T) h4.2.1
  have c := h4.1
  refine sp_advanceL h1 (by omega) (by omega) ?_
  rw [h3]
  exact kq
theorem sp_isWord_1L (h : cStL T E g f) (hs : f_sk s) (hl : pBh T E f - f = (fStr s).length) : ∀ (n i : Nat), i + n = (fStr s).length → (∀ k : Nat, k < i → T (f + k) = ((fStr s).getD k 0 : Nat)) → ((∀ k : Nat, k < (fStr s).length → T (f + k) = ((fStr s).getD k 0 : Nat)) → Q 1 (fI 1) g) → (¬ (∀ k : Nat, k < (fStr s).length → T (f + k) = ((fStr s).getD k 0 : Nat)) → Q 1 (fI 0) g) → fx W r 4 79 23 [274, s, fI (f + i)] [] g Q
  | n, i, hn, hi, k1, k2 => by
    obtain ⟨hc, h2, h3, h4⟩ := h
    have hs2 := hs.2.2.1
    have a3 := hc.2.2.1
    have b := pBh_b (T := T) h4.2.1
    have f0 := h4.1
    have f1 := h4.2.1
    refine fx_rg (fun hg => ?_)
    refine fx_li 2 24 (by decide +kernel) rfl ?_
    refine fx_la 0 25 (v := 274) (by decide +kernel) rfl (by decide +kernel) ?_
    refine fx_gi 274 34 3 28 (by decide +kernel) ?_
    refine fx_ige 61 31 (by decide +kernel) (by unfold fR; omega) (by first | exact hg 34 3 (by decide) (by decide +kernel) (by decide +kernel) | (unfold fR; omega)) (fun h28 => ?_) (fun h28 => ?_)
    · refine fx_ci (1) 62 (by decide +kernel) ?_
      refine fx_retb (by decide +kernel) (by first | exact Or.inl rfl | exact Or.inr rfl | omega) ?_
      exact k1 (fun k hk => hi k (by omega))
    · refine fx_la 0 32 (v := 274) (by decide +kernel) rfl (by decide +kernel) ?_
      refine fx_gp 274 34 0 10 35 (by decide +kernel) ?_
      refine fx_gp 10 1 0 18 38 (by decide +kernel) ?_
      obtain ⟨t1, t2, t3⟩ := CT_tL hc (k := f + i) (by omega) (by omega)
      have bv : (fStr s).getD i 0 < 128 := by
        refine hs.2.2.2 _ (List.mem_of_getElem? (i := i) ?_)
        rw [List.getD_eq_getElem?_getD, List.getElem?_eq_getElem (by omega)]
        rfl
      refine fx_li 2 39 (by decide +kernel) rfl ?_
      refine fx_al 18 2 400 40 (by decide +kernel) rfl (by omega) (by omega) rfl ?_
      rw [t1]
      refine fx_la 1 41 (v := s) (by decide +kernel) rfl (f_sty hs) ?_
      refine fx_li 2 42 (by decide +kernel) rfl ?_
      refine fx_la 0 43 (v := 274) (by decide +kernel) rfl (by decide +kernel) ?_
      refine fx_gi 274 34 2 46 (by decide +kernel) ?_
      rw [h2]
      refine fx_sub 47 (by decide +kernel) rfl ?_
      rw [show f + (i : Int) - f = (i : Int) by omega]
      refine fx_c2 82 39 50 3 [] (f_q39 hs.1 (by decide +kernel)) (by decide) (f_s4 hs) (fI_n4 _) rfl (by first | decide | omega) ?_
      refine sp_charAt hs (by omega) (by omega) (fK1 ?_)
      rw [show ((i : Int)).toNat = i from rfl]
      refine fx_ieq 55 53 (by decide +kernel) (by unfold fR; omega) (by unfold fR; omega) (fun h50 => ?_) (fun h50 => ?_)
      · refine fx_inc 2 58 (1) (by decide +kernel) rfl (Or.inr (f_s4 hs)) rfl ?_
        dsimp only [List.set]
        refine fx_go 23 (by decide +kernel) ?_
        match n, hn with
        | 0, hn => exfalso; omega
        | n + 1, hn =>
          rw [show f + (i : Int) + 1 = f + ((i + 1 : Nat) : Int) by omega]
          exact sp_isWord_1L ⟨hc, h2, h3, h4⟩ hs hl n (i + 1) (by omega) (fun k hk => by
            by_cases e : k = i
            · rw [e]; exact h50
            · exact hi k (by omega)) k1 k2
      · refine fx_ci (0) 54 (by decide +kernel) ?_
        refine fx_retb (by decide +kernel) (by first | exact Or.inl rfl | exact Or.inr rfl | omega) ?_
        exact k2 (fun t => h50 (t i (by omega)))
theorem sp_isWordL (h : cStL T E g f) (hs : f_sk s) (k1 : (pBh T E f - f = (fStr s).length ∧ ∀ k : Nat, k < (fStr s).length → T (f + k) = ((fStr s).getD k 0 : Nat)) → Q 1 (fI 1) g) (k2 : ¬ (pBh T E f - f = (fStr s).length ∧ ∀ k : Nat, k < (fStr s).length → T (f + k) = ((fStr s).getD k 0 : Nat)) → Q 1 (fI 0) g) : fx W r 4 79 0 [274, s, 7] [] g Q := by
  have hst := h
  obtain ⟨hc, h2, h3, h4⟩ := h
  have hs2 := hs.2.2.1
  have a3 := hc.2.2.1
  have b := pBh_b (T := T) h4.2.1
  have f0 := h4.1
  have f1 := h4.2.1
  refine fx_rg (fun hg => ?_)
  refine fx_la 0 1 (v := 274) (by decide +kernel) rfl (by decide +kernel) ?_
  refine fx_gi 274 34 3 4 (by decide +kernel) ?_
  refine fx_la 0 5 (v := 274) (by decide +kernel) rfl (by decide +kernel) ?_
  refine fx_gi 274 34 2 8 (by decide +kernel) ?_
  refine fx_sub 9 (by decide +kernel) rfl ?_
  refine fx_la 1 10 (v := s) (by decide +kernel) rfl (f_sty hs) ?_
  refine fx_c1 80 39 13 1 [] (f_q39 hs.1 (by decide +kernel)) (f_s4 hs) rfl (by first | decide | omega) ?_
  refine sp_len hs (fK1 ?_)
  rw [h2, h3]
  refine fx_ieq 18 16 (by decide +kernel) (by unfold fR; omega) (by unfold fR; omega) (fun h13 => ?_) (fun h13 => ?_)
  · refine fx_la 0 19 (v := 274) (by decide +kernel) rfl (by decide +kernel) ?_
    refine fx_gi 274 34 2 22 (by decide +kernel) ?_
    try simp only [fu_app, fcy_app, Nat.reduceEqDiff, and_true, and_false, false_and, true_and, if_true, if_false, ite_true, ite_false, reduceIte, Int.reduceToNat, fx_simp0]
    refine fx_si 2 23 (by decide +kernel) (Or.inr (f_s4 hs)) rfl ?_
    dsimp only [List.set]
    rw [h2]
    have := sp_isWord_1L (W := W) (r := r) (Q := Q) hst hs h13 _ 0 (Nat.zero_add _) (fun k hk => absurd hk (Nat.not_lt_zero k)) (fun t => k1 ⟨h13, t⟩) (fun t => k2 (fun q => t q.2))
    rw [show f + ((0 : Nat) : Int) = f by omega] at this
    exact this
  · refine fx_ci (0) 17 (by decide +kernel) ?_
    refine fx_retb (by decide +kernel) (by first | exact Or.inl rfl | exact Or.inr rfl | omega) ?_
    exact k2 (fun t => h13 t.1)
noncomputable def f_lwL (ws : List Nat) : Bool := !ws.isEmpty && ws.all (fun b => Nat.ble 97 b && Nat.ble b 122)
theorem sp_takesWordL (ws : List Nat) (hw : f_swb s ws = true) (hw2 : f_lwL ws = true) (h : cStL T E g f) (k1 : pWd T E ws f → Q 1 (fI 1) (cAtL T E g (pSk T E (pWe T E f)))) (k2 : ¬ pWd T E ws f → Q 1 (fI 0) g) : fx W r 5 78 0 [274, s] [] g Q := by
  obtain ⟨hs, he⟩ := f_sw hw
  obtain ⟨l1, l2⟩ := f_and hw2
  have hne : ws ≠ [] := fun t => by rw [t] at l1; cases l1
  have hl : ∀ b ∈ ws, 97 ≤ b ∧ b ≤ 122 := fun b hb => by
    obtain ⟨q1, q2⟩ := f_and (List.all_eq_true.mp l2 b hb)
    exact ⟨sx_ble q1, sx_ble q2⟩
  have hi := pWd_iff (T := T) (E := E) (f := f) h.2.2.2.2.1 hne hl
  refine fx_la 0 1 (v := 274) (by decide +kernel) rfl (by decide +kernel) ?_
  refine fx_la 1 2 (v := s) (by decide +kernel) rfl (f_sty hs) ?_
  refine fx_c2 79 21 5 4 [7] (by decide +kernel) (by decide) (by decide) (f_s4 hs) rfl (by first | decide | omega) ?_
  refine sp_isWordL h hs (fun b => fK1 ?_) (fun b => fK1 ?_)
  all_goals rw [he] at b
  · refine fx_zne 10 8 (by decide +kernel) (by unfold fR; omega) (fun _ => ?_) (fun hc => absurd hc (by decide))
    refine fx_la 0 11 (v := 274) (by decide +kernel) rfl (by decide +kernel) ?_
    refine fx_c1 74 21 14 0 [7] (by decide +kernel) (by decide) rfl (by first | decide | omega) ?_
    refine sp_advSL h (fK0 ?_)
    refine fx_ci (1) 15 (by decide +kernel) ?_
    refine fx_retb (by decide +kernel) (by first | exact Or.inl rfl | exact Or.inr rfl | omega) ?_
    have w := hi.mp b
    have k1 := k1 w
    have : 0 < ws.length := List.length_pos_iff.mpr hne
    rw [pBh_we (by have := w.1; omega)]
    exact k1
  · refine fx_zne 10 8 (by decide +kernel) (by unfold fR; omega) (fun hc => absurd hc (by decide)) (fun _ => ?_)
    refine fx_ci (0) 9 (by decide +kernel) ?_
    refine fx_retb (by decide +kernel) (by first | exact Or.inl rfl | exact Or.inr rfl | omega) ?_
    exact k2 (fun t => b (hi.mpr t))
theorem sp_takesSignL {c : Int} (h : cStL T E g f) (hc : fR c) (hn1 : ¬ (97 ≤ c ∧ c ≤ 122)) (hn2 : ¬ (48 ≤ c ∧ c ≤ 57)) (k1 : f < E ∧ T f = c → Q 1 (fI 1) (cAtL T E g (pSk T E (f + 1)))) (k2 : ¬ (f < E ∧ T f = c) → Q 1 (fI 0) g) : fx W r 1 106 0 [274, fI c] [] g Q := by
  have hst := h
  obtain ⟨hct, h2, h3, h4⟩ := h
  have a1 := hct.1
  have a3 := hct.2.2.1
  have f0 := h4.1
  have f1 := h4.2.1
  unfold fR at hc
  refine fx_rg (fun hg => ?_)
  refine fx_la 0 1 (v := 274) (by decide +kernel) rfl (by decide +kernel) ?_
  refine fx_gi 274 34 2 4 (by decide +kernel) ?_
  refine fx_la 0 5 (v := 274) (by decide +kernel) rfl (by decide +kernel) ?_
  refine fx_gi 274 34 4 8 (by decide +kernel) ?_
  refine fx_ige 27 11 (by decide +kernel) (by first | exact hg 34 2 (by decide) (by decide +kernel) (by decide +kernel) | (unfold fR; omega)) (by first | exact hg 34 4 (by decide) (by decide +kernel) (by decide +kernel) | (unfold fR; omega)) (fun h8 => ?_) (fun h8 => ?_)
  · refine fx_ci (0) 28 (by decide +kernel) ?_
    refine fx_retb (by decide +kernel) (by first | exact Or.inl rfl | exact Or.inr rfl | omega) ?_
    exact k2 (fun t => by omega)
  · refine fx_la 0 12 (v := 274) (by decide +kernel) rfl (by decide +kernel) ?_
    refine fx_gp 274 34 0 10 15 (by decide +kernel) ?_
    refine fx_gp 10 1 0 18 18 (by decide +kernel) ?_
    refine fx_la 0 19 (v := 274) (by decide +kernel) rfl (by decide +kernel) ?_
    refine fx_gi 274 34 2 22 (by decide +kernel) ?_
    rw [h2]
    obtain ⟨t1, t2, t3⟩ := CT_tL hct f0 (by omega)
    refine fx_al 18 2 400 23 (by decide +kernel) rfl (by omega) (by omega) rfl ?_
    rw [t1]
    refine fx_li 1 24 (by decide +kernel) rfl ?_
    refine fx_ieq 29 27 (by decide +kernel) (by unfold fR; omega) (by unfold fR; omega) (fun h24 => ?_) (fun h24 => ?_)
    · refine fx_la 0 30 (v := 274) (by decide +kernel) rfl (by decide +kernel) ?_
      refine fx_c1 74 21 33 0 [7] (by decide +kernel) (by decide) rfl (by first | decide | omega) ?_
      refine sp_advSL hst (fK0 ?_)
      refine fx_ci (1) 34 (by decide +kernel) ?_
      refine fx_retb (by decide +kernel) (by first | exact Or.inl rfl | exact Or.inr rfl | omega) ?_
      rw [pBh_sg (by omega) (by omega) (by omega)]
      exact k1 ⟨by omega, h24⟩
    · refine fx_ci (0) 28 (by decide +kernel) ?_
      refine fx_retb (by decide +kernel) (by first | exact Or.inl rfl | exact Or.inr rfl | omega) ?_
      exact k2 (fun t => by omega)
theorem sp_isOverL (h : cStL T E g f) (k1 : f = E → Q 1 (fI 1) g) (k2 : f < E → Q 1 (fI 0) g) : fx W r 0 76 0 [274] [] g Q := by
  obtain ⟨hct, h2, h3, h4⟩ := h
  have a1 := hct.1
  have f1 := h4.2.1
  refine fx_rg (fun hg => ?_)
  refine fx_la 0 1 (v := 274) (by decide +kernel) rfl (by decide +kernel) ?_
  refine fx_gi 274 34 2 4 (by decide +kernel) ?_
  refine fx_la 0 5 (v := 274) (by decide +kernel) rfl (by decide +kernel) ?_
  refine fx_gi 274 34 4 8 (by decide +kernel) ?_
  refine fx_ilt 15 11 (by decide +kernel) (by first | exact hg 34 2 (by decide) (by decide +kernel) (by decide +kernel) | (unfold fR; omega)) (by first | exact hg 34 4 (by decide) (by decide +kernel) (by decide +kernel) | (unfold fR; omega)) (fun h8 => ?_) (fun h8 => ?_)
  · refine fx_ci (0) 16 (by decide +kernel) ?_
    refine fx_retb (by decide +kernel) (by first | exact Or.inl rfl | exact Or.inr rfl | omega) ?_
    first | exact k1 (by omega) | exact k2 (by omega)
  · refine fx_ci (1) 12 (by decide +kernel) ?_
    refine fx_go 16 (by decide +kernel) ?_
    refine fx_retb (by decide +kernel) (by first | exact Or.inl rfl | exact Or.inr rfl | omega) ?_
    first | exact k1 (by omega) | exact k2 (by omega)
theorem sp_wrongAtL {w : Int} (hw : fR w) (kq : Q 1 (fI 0) (fu g 34 1 w)) : fx W r 0 92 0 [274, fI w] [] g Q := by
  unfold fR at hw
  refine fx_la 0 1 (v := 274) (by decide +kernel) rfl (by decide +kernel) ?_
  refine fx_li 1 2 (by decide +kernel) rfl ?_
  refine fx_pi 274 34 1 5 (by decide +kernel) (by unfold fR; omega) ?_
  refine fx_ci (0) 6 (by decide +kernel) ?_
  refine fx_retb (by decide +kernel) (by first | exact Or.inl rfl | exact Or.inr rfl | omega) ?_
  exact kq
theorem sp_digitsL (h : cStL T E g f) (kq : Q 1 (fI (pDg T E f - f)) g) : fx W r 0 94 0 [274, 7] [] g Q := by
  obtain ⟨hct, h2, h3, h4⟩ := h
  have a1 := hct.1
  have a3 := hct.2.2.1
  have f0 := h4.1
  have f1 := h4.2.1
  have d0 := pDg_ge T E f
  have d1 := pDg_le (T := T) f1
  refine fx_rg (fun hg => ?_)
  have z : (E ≤ f ∨ ¬ (48 ≤ T f ∧ T f ≤ 57)) → Q 1 (fI 0) g := fun t => by
    have e : pDg T E f = f := by
      rcases t with t | t
      · exact prun_stop t
      · exact prun_no (isDi_f t)
    rw [e, show f - f = 0 by omega] at kq
    exact kq
  refine fx_la 0 1 (v := 274) (by decide +kernel) rfl (by decide +kernel) ?_
  refine fx_gi 274 34 2 4 (by decide +kernel) ?_
  refine fx_la 0 5 (v := 274) (by decide +kernel) rfl (by decide +kernel) ?_
  refine fx_gi 274 34 4 8 (by decide +kernel) ?_
  refine fx_ige 49 11 (by decide +kernel) (by first | exact hg 34 2 (by decide) (by decide +kernel) (by decide +kernel) | (unfold fR; omega)) (by first | exact hg 34 4 (by decide) (by decide +kernel) (by decide +kernel) | (unfold fR; omega)) (fun h8 => ?_) (fun h8 => ?_)
  · refine fx_ci (0) 50 (by decide +kernel) ?_
    refine fx_si 1 51 (by decide +kernel) (Or.inr (f_n4p (v := 274) rfl (by decide))) rfl ?_
    dsimp only [List.set]
    refine fx_li 1 52 (by decide +kernel) rfl ?_
    refine fx_zeq 67 55 (by decide +kernel) (by unfold fR; omega) (fun _ => ?_) (fun hc => absurd hc (by decide))
    refine fx_ci (0) 68 (by decide +kernel) ?_
    refine fx_ret (by decide +kernel) ?_
    exact z (Or.inl (by omega))
  · refine fx_la 0 12 (v := 274) (by decide +kernel) rfl (by decide +kernel) ?_
    refine fx_gp 274 34 0 10 15 (by decide +kernel) ?_
    refine fx_gp 10 1 0 18 18 (by decide +kernel) ?_
    refine fx_la 0 19 (v := 274) (by decide +kernel) rfl (by decide +kernel) ?_
    refine fx_gi 274 34 2 22 (by decide +kernel) ?_
    rw [h2]
    obtain ⟨t1, t2, t3⟩ := CT_tL hct f0 (by omega)
    refine fx_al 18 2 400 23 (by decide +kernel) rfl (by omega) (by omega) rfl ?_
    rw [t1]
    refine fx_ci (48) 25 (by decide +kernel) ?_
    refine fx_ilt 49 28 (by decide +kernel) (by unfold fR; omega) (by unfold fR; omega) (fun h25 => ?_) (fun h25 => ?_)
    · refine fx_ci (0) 50 (by decide +kernel) ?_
      refine fx_si 1 51 (by decide +kernel) (Or.inr (f_n4p (v := 274) rfl (by decide))) rfl ?_
      dsimp only [List.set]
      refine fx_li 1 52 (by decide +kernel) rfl ?_
      refine fx_zeq 67 55 (by decide +kernel) (by unfold fR; omega) (fun _ => ?_) (fun hc => absurd hc (by decide))
      refine fx_ci (0) 68 (by decide +kernel) ?_
      refine fx_ret (by decide +kernel) ?_
      exact z (Or.inr (by omega))
    · refine fx_la 0 29 (v := 274) (by decide +kernel) rfl (by decide +kernel) ?_
      refine fx_gp 274 34 0 10 32 (by decide +kernel) ?_
      refine fx_gp 10 1 0 18 35 (by decide +kernel) ?_
      refine fx_la 0 36 (v := 274) (by decide +kernel) rfl (by decide +kernel) ?_
      refine fx_gi 274 34 2 39 (by decide +kernel) ?_
      rw [h2]
      refine fx_al 18 2 400 40 (by decide +kernel) rfl (by omega) (by omega) rfl ?_
      rw [t1]
      refine fx_ci (57) 42 (by decide +kernel) ?_
      refine fx_igt 49 45 (by decide +kernel) (by unfold fR; omega) (by unfold fR; omega) (fun h42 => ?_) (fun h42 => ?_)
      · refine fx_ci (0) 50 (by decide +kernel) ?_
        refine fx_si 1 51 (by decide +kernel) (Or.inr (f_n4p (v := 274) rfl (by decide))) rfl ?_
        dsimp only [List.set]
        refine fx_li 1 52 (by decide +kernel) rfl ?_
        refine fx_zeq 67 55 (by decide +kernel) (by unfold fR; omega) (fun _ => ?_) (fun hc => absurd hc (by decide))
        refine fx_ci (0) 68 (by decide +kernel) ?_
        refine fx_ret (by decide +kernel) ?_
        exact z (Or.inr (by omega))
      · refine fx_ci (1) 46 (by decide +kernel) ?_
        refine fx_go 50 (by decide +kernel) ?_
        refine fx_si 1 51 (by decide +kernel) (Or.inr (f_n4p (v := 274) rfl (by decide))) rfl ?_
        dsimp only [List.set]
        refine fx_li 1 52 (by decide +kernel) rfl ?_
        refine fx_zeq 67 55 (by decide +kernel) (by unfold fR; omega) (fun hc => absurd hc (by decide)) (fun _ => ?_)
        refine fx_la 0 56 (v := 274) (by decide +kernel) rfl (by decide +kernel) ?_
        refine fx_gi 274 34 3 59 (by decide +kernel) ?_
        refine fx_la 0 60 (v := 274) (by decide +kernel) rfl (by decide +kernel) ?_
        refine fx_gi 274 34 2 63 (by decide +kernel) ?_
        refine fx_sub 64 (by decide +kernel) rfl ?_
        refine fx_go 68 (by decide +kernel) ?_
        refine fx_ret (by decide +kernel) ?_
        rw [h2, h3, pBh_dg (by omega) (by omega)]
        exact kq
theorem sp_takeNumber_1L {lo hi : Int} (h : cStL T E g f) (hd : ∀ k : Nat, k < (pDg T E f - f).toNat → 48 ≤ T (f + k) ∧ T (f + k) ≤ 57) (kq : fx W r 1 93 55 [274, fI lo, fI hi, fI (pDg T E f - f), fI (nv T f (min (pDg T E f - f).toNat 3)), fI ((min (pDg T E f - f).toNat 3 : Nat) : Int)] [] g Q) :
    ∀ (n k : Nat), k + n = min (pDg T E f - f).toNat 3 → fx W r 1 93 11 [274, fI lo, fI hi, fI (pDg T E f - f), fI (nv T f k), fI (k : Int)] [] g Q
  | n, k, hn => by
    obtain ⟨hct, h2, h3, h4⟩ := h
    have a1 := hct.1
    have a3 := hct.2.2.1
    have f0 := h4.1
    have f1 := h4.2.1
    have d0 := pDg_ge T E f
    have d1 := pDg_le (T := T) f1
    have nb := nv_lt (T := T) (f := f) (n := k) (by omega) (fun j hj => hd j (by omega))
    refine fx_rg (fun hg => ?_)
    refine fx_li 5 13 (by decide +kernel) rfl ?_
    refine fx_li 3 14 (by decide +kernel) rfl ?_
    refine fx_ige 55 17 (by decide +kernel) (by unfold fR; omega) (by unfold fR; omega) (fun h14 => ?_) (fun h14 => ?_)
    · have e : k = min (pDg T E f - f).toNat 3 := by omega
      rw [← e] at kq
      exact kq
    · refine fx_li 5 19 (by decide +kernel) rfl ?_
      refine fx_ci (3) 20 (by decide +kernel) ?_
      refine fx_ige 55 23 (by decide +kernel) (by unfold fR; omega) (by unfold fR; omega) (fun h20 => ?_) (fun h20 => ?_)
      · have e : k = min (pDg T E f - f).toNat 3 := by omega
        rw [← e] at kq
        exact kq
      · refine fx_li 4 25 (by decide +kernel) rfl ?_
        refine fx_ci (10) 27 (by decide +kernel) ?_
        refine fx_mul 28 (by decide +kernel) rfl ?_
        refine fx_la 0 29 (v := 274) (by decide +kernel) rfl (by decide +kernel) ?_
        refine fx_gp 274 34 0 10 32 (by decide +kernel) ?_
        refine fx_gp 10 1 0 18 35 (by decide +kernel) ?_
        refine fx_la 0 36 (v := 274) (by decide +kernel) rfl (by decide +kernel) ?_
        refine fx_gi 274 34 2 39 (by decide +kernel) ?_
        refine fx_li 5 41 (by decide +kernel) rfl ?_
        refine fx_add 42 (by decide +kernel) rfl ?_
        rw [h2]
        obtain ⟨t1, t2, t3⟩ := CT_tL hct (k := f + k) (by omega) (by omega)
        refine fx_al 18 2 400 43 (by decide +kernel) rfl (by omega) (by omega) rfl ?_
        rw [t1]
        refine fx_add 44 (by decide +kernel) rfl ?_
        refine fx_ci (48) 46 (by decide +kernel) ?_
        refine fx_sub 47 (by decide +kernel) rfl ?_
        refine fx_si 4 49 (by decide +kernel) (Or.inr (fI_n4 _)) rfl ?_
        dsimp only [List.set]
        refine fx_inc 5 52 (1) (by decide +kernel) rfl (Or.inr (fI_n4 _)) rfl ?_
        dsimp only [List.set]
        refine fx_go 11 (by decide +kernel) ?_
        match n, hn with
        | 0, hn => exfalso; omega
        | n + 1, hn =>
          rw [show nv T f k * 10 + T (f + k) - 48 = nv T f (k + 1) from by show _ = 10 * nv T f k + T (f + k) - 48; omega]
          exact sp_takeNumber_1L ⟨hct, h2, h3, h4⟩ hd kq n (k + 1) (by omega)
theorem sp_takeNumberL {lo hi : Int} (h : cStL T E g f) (hlo : fR lo) (hhi : fR hi) (k1 : pN T E lo hi f → Q 1 (fI (pNu T E f)) (cAtL T E g (pSk T E (pDg T E f)))) (k2 : ¬ pN T E lo hi f → ∀ v, v = -1 → Q 1 (fI v) (fu g 34 1 f)) : fx W r 1 93 0 [274, fI lo, fI hi, 7, 7, 7] [] g Q := by
  have hst := h
  obtain ⟨hct, h2, h3, h4⟩ := h
  have a1 := hct.1
  have a3 := hct.2.2.1
  have f0 := h4.1
  have f1 := h4.2.1
  have d0 := pDg_ge T E f
  have d1 := pDg_le (T := T) f1
  have hd : ∀ k : Nat, k < (pDg T E f - f).toNat → 48 ≤ T (f + k) ∧ T (f + k) ≤ 57 := fun k hk => by
    have := prun_all (p := isDi T) (E := E) (i := f) (k := f + k) (by omega) (show f + (k : Int) < pDg T E f by omega)
    exact of_decide_eq_true this
  refine fx_rg (fun hg => ?_)
  unfold fR at hlo hhi
  refine fx_la 0 1 (v := 274) (by decide +kernel) rfl (by decide +kernel) ?_
  refine fx_c1 94 21 4 0 [7] (by decide +kernel) (by decide) rfl (by first | decide | omega) ?_
  refine sp_digitsL hst (fK1 ?_)
  refine fx_si 3 5 (by decide +kernel) (Or.inr (fI_n4 _)) rfl ?_
  dsimp only [List.set]
  refine fx_ci (0) 6 (by decide +kernel) ?_
  refine fx_si 4 8 (by decide +kernel) (Or.inr (fI_n4 _)) rfl ?_
  dsimp only [List.set]
  refine fx_ci (0) 9 (by decide +kernel) ?_
  refine fx_si 5 11 (by decide +kernel) (Or.inr (fI_n4 _)) rfl ?_
  dsimp only [List.set]
  refine sp_takeNumber_1L hst hd ?_ _ 0 (Nat.zero_add _)
  have nb := nv_lt (T := T) (f := f) (n := min (pDg T E f - f).toNat 3) (by omega) (fun j hj => hd j (by omega))
  have mn : (pDg T E f - f).toNat ≤ 3 → min (pDg T E f - f).toNat 3 = (pDg T E f - f).toNat := fun t => by omega
  refine fx_li 3 56 (by decide +kernel) rfl ?_
  refine fx_ci (1) 57 (by decide +kernel) ?_
  refine fx_ilt 77 60 (by decide +kernel) (by unfold fR; omega) (by unfold fR; omega) (fun h57 => ?_) (fun h57 => ?_)
  · refine fx_la 0 78 (v := 274) (by decide +kernel) rfl (by decide +kernel) ?_
    refine fx_la 0 79 (v := 274) (by decide +kernel) rfl (by decide +kernel) ?_
    refine fx_gi 274 34 2 82 (by decide +kernel) ?_
    rw [h2]
    refine fx_pi 274 34 1 85 (by decide +kernel) (by first | exact hg 34 2 (by decide) (by decide +kernel) (by decide +kernel) | (unfold fR; omega)) ?_
    refine fx_ci (-1) 86 (by decide +kernel) ?_
    refine fx_ret (by decide +kernel) ?_
    refine k2 (fun t => ?_) _ rfl
    obtain ⟨t1, t2, t3, t4⟩ := t
    have ev : nv T f (min (pDg T E f - f).toNat 3) = nv T f (pDg T E f - f).toNat := by rw [mn (by omega)]
    omega
  · refine fx_li 3 61 (by decide +kernel) rfl ?_
    refine fx_ci (3) 62 (by decide +kernel) ?_
    refine fx_igt 77 65 (by decide +kernel) (by unfold fR; omega) (by unfold fR; omega) (fun h62 => ?_) (fun h62 => ?_)
    · refine fx_la 0 78 (v := 274) (by decide +kernel) rfl (by decide +kernel) ?_
      refine fx_la 0 79 (v := 274) (by decide +kernel) rfl (by decide +kernel) ?_
      refine fx_gi 274 34 2 82 (by decide +kernel) ?_
      rw [h2]
      refine fx_pi 274 34 1 85 (by decide +kernel) (by first | exact hg 34 2 (by decide) (by decide +kernel) (by decide +kernel) | (unfold fR; omega)) ?_
      refine fx_ci (-1) 86 (by decide +kernel) ?_
      refine fx_ret (by decide +kernel) ?_
      refine k2 (fun t => ?_) _ rfl
      obtain ⟨t1, t2, t3, t4⟩ := t
      have ev : nv T f (min (pDg T E f - f).toNat 3) = nv T f (pDg T E f - f).toNat := by rw [mn (by omega)]
      omega
    · refine fx_li 4 67 (by decide +kernel) rfl ?_
      refine fx_li 1 68 (by decide +kernel) rfl ?_
      refine fx_ilt 77 71 (by decide +kernel) (by unfold fR; omega) (by unfold fR; omega) (fun h68 => ?_) (fun h68 => ?_)
      · refine fx_la 0 78 (v := 274) (by decide +kernel) rfl (by decide +kernel) ?_
        refine fx_la 0 79 (v := 274) (by decide +kernel) rfl (by decide +kernel) ?_
        refine fx_gi 274 34 2 82 (by decide +kernel) ?_
        rw [h2]
        refine fx_pi 274 34 1 85 (by decide +kernel) (by first | exact hg 34 2 (by decide) (by decide +kernel) (by decide +kernel) | (unfold fR; omega)) ?_
        refine fx_ci (-1) 86 (by decide +kernel) ?_
        refine fx_ret (by decide +kernel) ?_
        refine k2 (fun t => ?_) _ rfl
        obtain ⟨t1, t2, t3, t4⟩ := t
        have ev : nv T f (min (pDg T E f - f).toNat 3) = nv T f (pDg T E f - f).toNat := by rw [mn (by omega)]
        omega
      · refine fx_li 4 73 (by decide +kernel) rfl ?_
        refine fx_li 2 74 (by decide +kernel) rfl ?_
        refine fx_ile 87 77 (by decide +kernel) (by unfold fR; omega) (by unfold fR; omega) (fun h74 => ?_) (fun h74 => ?_)
        · rw [mn (by omega)] at *
          have dd : 48 ≤ T f ∧ T f ≤ 57 := by
            have := hd 0 (by omega)
            rw [show f + ((0 : Nat) : Int) = f by omega] at this
            exact this
          refine fx_la 0 88 (v := 274) (by decide +kernel) rfl (by decide +kernel) ?_
          refine fx_c1 74 21 91 0 [7] (by decide +kernel) (by decide) rfl (by first | decide | omega) ?_
          refine sp_advSL hst (fK0 ?_)
          rw [pBh_dg (by omega) dd]
          refine fx_li 4 93 (by decide +kernel) rfl ?_
          refine fx_ret (by decide +kernel) ?_
          exact k1 ⟨by omega, by omega, h68, h74⟩
        · refine fx_la 0 78 (v := 274) (by decide +kernel) rfl (by decide +kernel) ?_
          refine fx_la 0 79 (v := 274) (by decide +kernel) rfl (by decide +kernel) ?_
          refine fx_gi 274 34 2 82 (by decide +kernel) ?_
          rw [h2]
          refine fx_pi 274 34 1 85 (by decide +kernel) (by first | exact hg 34 2 (by decide) (by decide +kernel) (by decide +kernel) | (unfold fR; omega)) ?_
          refine fx_ci (-1) 86 (by decide +kernel) ?_
          refine fx_ret (by decide +kernel) ?_
          refine k2 (fun t => ?_) _ rfl
          obtain ⟨t1, t2, t3, t4⟩ := t
          have ev : nv T f (min (pDg T E f - f).toNat 3) = nv T f (pDg T E f - f).toNat := by rw [mn (by omega)]
          omega
end FXSL
end
section
/-! fx: the law's text, pure: where it goes on, and the steps that it says -/
/-- a fact that is told by a word; -1: none -/
noncomputable def pFact (T : Int → Int) (E f : Int) : Int := cif (pWd T E [112, 101, 114, 115, 111, 110] f) 1000 (cif (pWd T E [112, 108, 97, 99, 101] f) 1001 (cif (pWd T E [100, 105, 115, 104] f) 1002 (cif (pWd T E [99, 111, 108, 100] f) 1003 (cif (pWd T E [118, 111, 116, 101] f) 1004 (cif (pWd T E [119, 101, 105, 103, 104, 116] f) 1005 (cif (pWd T E [110, 105, 103, 104, 116] f) 1006 (-1)))))))
noncomputable def pPart (T : Int → Int) (E f : Int) : Int ⊕ (Int × Int) := cif (pFact T E f = -1) (cif (pN T E 0 999 f) (Sum.inr (pSk T E (pDg T E f), pNu T E f)) (Sum.inl f)) (Sum.inr (pSk T E (pWe T E f), pFact T E f))
/-- is the sign z at f -/
def pSg (T : Int → Int) (E z f : Int) : Prop := f < E ∧ T f = z
/-- a sum from f on, n bytes left; c: the steps so far; j: is it joined to one before -/
noncomputable def pSum (T : Int → Int) (E : Int) : Nat → Int → List Int → Bool → Int ⊕ (Int × List Int)
  | 0, f, _, _ => Sum.inl f
  | n + 1, f, c, j => bS (pPart T E f) (fun a => cif (pSg T E 43 a.1) (pSum T E n (pSk T E (a.1 + 1)) (c ++ (a.2 :: cond j [2000] [])) true) (Sum.inr (a.1, c ++ (a.2 :: cond j [2000] []))))
/-- an atom (0), what is joined by and (1), by or (2) -/
noncomputable def pCd (T : Int → Int) (E : Int) : Nat → Nat → Int → Int → List Int → Bool → Int ⊕ (Int × List Int)
  | 0, _, _, f, _, _ => Sum.inl f
  | n + 1, 0, d, f, c, _ =>
    cif (pSg T E 40 f) (cif (6 ≤ d) (Sum.inl f) (bS (pCd T E n 2 (d + 1) (pSk T E (f + 1)) c false) (fun a => cif (pSg T E 41 a.1) (Sum.inr (pSk T E (a.1 + 1), a.2)) (Sum.inl a.1))))
    (cif (pWd T E [110, 111, 116] f) (cif (6 ≤ d) (Sum.inl f) (bS (pCd T E n 0 (d + 1) (pSk T E (pWe T E f)) c false) (fun a => Sum.inr (a.1, a.2 ++ [2003]))))
    (cif (pWd T E [112, 114, 111, 109, 105, 115, 101, 100] f) (Sum.inr (pSk T E (pWe T E f), c ++ [1007]))
    (cif (pWd T E [116, 104, 114, 101, 101] f) (Sum.inr (pSk T E (pWe T E f), c ++ [1008]))
    (bS (pSum T E 401 f c false) (fun a => cif (pSg T E 60 a.1) (bS (pSum T E 401 (pSk T E (a.1 + 1)) a.2 false) (fun b => Sum.inr (b.1, b.2 ++ [2001])))
      (cif (pSg T E 62 a.1) (bS (pSum T E 401 (pSk T E (a.1 + 1)) a.2 false) (fun b => Sum.inr (b.1, b.2 ++ [2002]))) (Sum.inl a.1)))))))
  | n + 1, 1, d, f, c, j => bS (pCd T E n 0 d f c false) (fun a => cif (pWd T E [97, 110, 100] a.1) (pCd T E n 1 d (pSk T E (pWe T E a.1)) (a.2 ++ cond j [2004] []) true) (Sum.inr (a.1, a.2 ++ cond j [2004] [])))
  | n + 1, _ + 2, d, f, c, j => bS (pCd T E n 1 d f c false) (fun a => cif (pWd T E [111, 114] a.1) (pCd T E n 2 d (pSk T E (pWe T E a.1)) (a.2 ++ cond j [2005] []) true) (Sum.inr (a.1, a.2 ++ cond j [2005] [])))
theorem bS_inr2 {α β : Type} {x : Int ⊕ α} {k : α → Int ⊕ β} {y : β} (h : bS x k = Sum.inr y) : ∃ a, x = Sum.inr a ∧ k a = Sum.inr y := bS_inr h
theorem bS_r {α β : Type} {a : α} {k : α → Int ⊕ β} : bS (Sum.inr a) k = k a := rfl
theorem bS_l {α β : Type} {q : Int} {k : α → Int ⊕ β} : bS (Sum.inl q : Int ⊕ α) k = Sum.inl q := rfl
theorem pWd_lt {T : Int → Int} {E f : Int} {ws : List Nat} (hn : 0 < ws.length) (h : pWd T E ws f) : f + 1 ≤ pWe T E f := by
  have := h.1
  omega
theorem pOk_s1 {T : Int → Int} {E f z : Int} (h : pOk T E f) (hs : pSg T E z f) : pOk T E (pSk T E (f + 1)) := pOk_sk (by have := h.1; omega) (by have := hs.1; omega)
theorem pFact_w {T : Int → Int} {E f : Int} (h : pFact T E f ≠ -1) : f + 1 ≤ pWe T E f := by
  have w : ∀ (ws : List Nat) (a b : Int), 0 < ws.length → (b ≠ -1 → f + 1 ≤ pWe T E f) → cif (pWd T E ws f) a b ≠ -1 → f + 1 ≤ pWe T E f := fun ws a b hn hb hc => by
    by_cases c : pWd T E ws f
    · exact pWd_lt hn c
    · rw [cif_f c] at hc; exact hb hc
  refine w _ _ _ (by decide) (w _ _ _ (by decide) (w _ _ _ (by decide) (w _ _ _ (by decide) (w _ _ _ (by decide) (w _ _ _ (by decide) (w _ _ _ (by decide) (fun t => absurd rfl t))))))) h
theorem pFact_b (T : Int → Int) (E f : Int) : pFact T E f = -1 ∨ (1000 ≤ pFact T E f ∧ pFact T E f ≤ 1006) := by
  have w : ∀ (P : Prop) (a b : Int), (1000 ≤ a ∧ a ≤ 1006) → (b = -1 ∨ (1000 ≤ b ∧ b ≤ 1006)) → (cif P a b = -1 ∨ (1000 ≤ cif P a b ∧ cif P a b ≤ 1006)) := fun P a b ha hb => by
    by_cases c : P
    · rw [cif_t c]; exact Or.inr ha
    · rw [cif_f c]; exact hb
  exact w _ _ _ (by decide) (w _ _ _ (by decide) (w _ _ _ (by decide) (w _ _ _ (by decide) (w _ _ _ (by decide) (w _ _ _ (by decide) (w _ _ _ (by decide) (Or.inl rfl)))))))
/-- a part goes on behind f -/
theorem pPart_ok {T : Int → Int} {E f f1 v : Int} (h : pPart T E f = Sum.inr (f1, v)) (hf : pOk T E f) : pOk T E f1 ∧ f + 1 ≤ f1 ∧ 0 ≤ v ∧ v ≤ 1006 := by
  unfold pPart at h
  by_cases c : pFact T E f = -1
  · rw [cif_t c] at h
    by_cases c2 : pN T E 0 999 f
    · rw [cif_t c2] at h
      cases h
      have h1 := pSk_ge T E (pDg T E f)
      obtain ⟨n1, n2, n3, n4⟩ := c2
      exact ⟨pOk_dg hf, by omega, n3, by show nv T f _ ≤ 1006; omega⟩
    · rw [cif_f c2] at h; cases h
  · rw [cif_f c] at h
    cases h
    have h1 := pFact_w c
    have h2 := pSk_ge T E (pWe T E f)
    have h3 := pFact_b T E f
    exact ⟨pOk_we hf, by omega, by omega, by omega⟩
/-- P: how many steps are still owed -/
theorem pSum_ok {T : Int → Int} {E : Int} {P : Nat} : ∀ (n : Nat) (f : Int) (c : List Int) (j : Bool) (f1 : Int) (c1 : List Int), pSum T E n f c j = Sum.inr (f1, c1) → pOk T E f → c.length + P + cond j 1 0 ≤ f → pOk T E f1 ∧ f + 1 ≤ f1 ∧ c1.length + P ≤ f1
  | 0, f, c, j, f1, c1, h, _, _ => by cases h
  | n + 1, f, c, j, f1, c1, h, hf, hl => by
    obtain ⟨⟨f2, v⟩, h1, h2⟩ := bS_inr h
    obtain ⟨o1, o2, -, -⟩ := pPart_ok h1 hf
    have ln : ((c ++ (v :: cond j [2000] [])).length : Int) = c.length + 1 + cond j 1 0 := by
      cases j
      · show ((c ++ [v]).length : Int) = c.length + 1 + 0
        rw [List.length_append]; simp
      · show ((c ++ [v, 2000]).length : Int) = c.length + 1 + 1
        rw [List.length_append]; simp; omega
    have cb : ((cond j 1 0 : Nat) : Int) = cond j 1 0 := by cases j <;> rfl
    have h2 : cif (pSg T E 43 f2) (pSum T E n (pSk T E (f2 + 1)) (c ++ (v :: cond j [2000] [])) true) (Sum.inr (f2, c ++ (v :: cond j [2000] []))) = Sum.inr (f1, c1) := h2
    by_cases s : pSg T E 43 f2
    · rw [cif_t s] at h2
      have h3 := pSk_ge T E (f2 + 1)
      obtain ⟨q1, q2, q3⟩ := pSum_ok n _ _ _ _ _ h2 (pOk_s1 o1 s) (by
        show ((c ++ (v :: cond j [2000] [])).length : Int) + P + 1 ≤ _
        omega)
      exact ⟨q1, by omega, q3⟩
    · rw [cif_f s] at h2
      cases h2
      exact ⟨o1, o2, by omega⟩
theorem cbI (j : Bool) : ((cond j 1 0 : Nat) : Int) = cond j 1 0 := by cases j <;> rfl
theorem ln_j (c : List Int) (j : Bool) (x : Int) : ((c ++ cond j [x] []).length : Int) = c.length + cond j 1 0 := by
  rw [List.length_append]
  cases j <;> simp
theorem ln_1 (c : List Int) (x : Int) : ((c ++ [x]).length : Int) = c.length + 1 := by
  rw [List.length_append]
  simp
theorem pCd_ok {T : Int → Int} {E : Int} : ∀ (n k : Nat) (P : Nat) (d f : Int) (c : List Int) (j : Bool) (f1 : Int) (c1 : List Int), pCd T E n k d f c j = Sum.inr (f1, c1) → pOk T E f → c.length + P + cond j 1 0 ≤ f → pOk T E f1 ∧ f + 1 ≤ f1 ∧ c1.length + P ≤ f1
  | 0, _, _, _, _, _, _, _, _, h, _, _ => by cases h
  | n + 1, 0, P, d, f, c, j, f1, c1, h, hf, hl => by
    have hj : (0 : Int) ≤ cond j 1 0 := by cases j <;> decide
    have h : cif (pSg T E 40 f) (cif (6 ≤ d) (Sum.inl f) (bS (pCd T E n 2 (d + 1) (pSk T E (f + 1)) c false) (fun a => cif (pSg T E 41 a.1) (Sum.inr (pSk T E (a.1 + 1), a.2)) (Sum.inl a.1)))) _ = Sum.inr (f1, c1) := h
    by_cases s0 : pSg T E 40 f
    · rw [cif_t s0] at h
      have g0 := pSk_ge T E (f + 1)
      by_cases d6 : 6 ≤ d
      · rw [cif_t d6] at h; cases h
      · rw [cif_f d6] at h
        obtain ⟨⟨f2, c2⟩, h1, h2⟩ := bS_inr h
        obtain ⟨o1, o2, o3⟩ := pCd_ok n 2 P _ _ _ _ _ _ h1 (pOk_s1 hf s0) (by show (c.length : Int) + P + 0 ≤ _; omega)
        have h2 : cif (pSg T E 41 f2) (Sum.inr (pSk T E (f2 + 1), c2)) (Sum.inl f2) = Sum.inr (f1, c1) := h2
        by_cases s1 : pSg T E 41 f2
        · rw [cif_t s1] at h2
          cases h2
          have g1 := pSk_ge T E (f2 + 1)
          exact ⟨pOk_s1 o1 s1, by omega, by omega⟩
        · rw [cif_f s1] at h2; cases h2
    · rw [cif_f s0] at h
      by_cases w1 : pWd T E [110, 111, 116] f
      · rw [cif_t w1] at h
        have g0 := pSk_ge T E (pWe T E f)
        have g1 : pWe T E f - f = 3 := w1.1
        by_cases d6 : 6 ≤ d
        · rw [cif_t d6] at h; cases h
        · rw [cif_f d6] at h
          obtain ⟨⟨f2, c2⟩, h1, h2⟩ := bS_inr h
          obtain ⟨o1, o2, o3⟩ := pCd_ok n 0 (P + 1) _ _ _ _ _ _ h1 (pOk_we hf) (by show (c.length : Int) + ((P + 1 : Nat) : Int) + 0 ≤ _; omega)
          have h2 : (Sum.inr (f2, c2 ++ [2003]) : Int ⊕ (Int × List Int)) = Sum.inr (f1, c1) := h2
          cases h2
          have := ln_1 c2 2003
          exact ⟨o1, by omega, by omega⟩
      · rw [cif_f w1] at h
        by_cases w2 : pWd T E [112, 114, 111, 109, 105, 115, 101, 100] f
        · rw [cif_t w2] at h
          cases h
          have g0 := pSk_ge T E (pWe T E f)
          have g1 : pWe T E f - f = 8 := w2.1
          have := ln_1 c 1007
          exact ⟨pOk_we hf, by omega, by omega⟩
        · rw [cif_f w2] at h
          by_cases w3 : pWd T E [116, 104, 114, 101, 101] f
          · rw [cif_t w3] at h
            cases h
            have g0 := pSk_ge T E (pWe T E f)
            have g1 : pWe T E f - f = 5 := w3.1
            have := ln_1 c 1008
            exact ⟨pOk_we hf, by omega, by omega⟩
          · rw [cif_f w3] at h
            obtain ⟨⟨f2, c2⟩, h1, h2⟩ := bS_inr h
            obtain ⟨o1, o2, o3⟩ := pSum_ok (P := P) _ _ _ _ _ _ h1 hf (by show (c.length : Int) + P + 0 ≤ _; omega)
            have h2 : cif (pSg T E 60 f2) (bS (pSum T E 401 (pSk T E (f2 + 1)) c2 false) (fun b => Sum.inr (b.1, b.2 ++ [2001]))) (cif (pSg T E 62 f2) (bS (pSum T E 401 (pSk T E (f2 + 1)) c2 false) (fun b => Sum.inr (b.1, b.2 ++ [2002]))) (Sum.inl f2)) = Sum.inr (f1, c1) := h2
            have g0 := pSk_ge T E (f2 + 1)
            have nxt : ∀ (z x : Int), pSg T E z f2 → bS (pSum T E 401 (pSk T E (f2 + 1)) c2 false) (fun b => Sum.inr (b.1, b.2 ++ [x])) = Sum.inr (f1, c1) → pOk T E f1 ∧ f + 1 ≤ f1 ∧ c1.length + P ≤ f1 := fun z x s h2 => by
              obtain ⟨⟨f3, c3⟩, h3, h4⟩ := bS_inr h2
              obtain ⟨q1, q2, q3⟩ := pSum_ok (P := P + 1) _ _ _ _ _ _ h3 (pOk_s1 o1 s) (by show (c2.length : Int) + ((P + 1 : Nat) : Int) + 0 ≤ _; omega)
              have h4 : (Sum.inr (f3, c3 ++ [x]) : Int ⊕ (Int × List Int)) = Sum.inr (f1, c1) := h4
              cases h4
              have := ln_1 c3 x
              exact ⟨q1, by omega, by omega⟩
            by_cases s1 : pSg T E 60 f2
            · rw [cif_t s1] at h2
              exact nxt _ _ s1 h2
            · rw [cif_f s1] at h2
              by_cases s2 : pSg T E 62 f2
              · rw [cif_t s2] at h2
                exact nxt _ _ s2 h2
              · rw [cif_f s2] at h2; cases h2
  | n + 1, 1, P, d, f, c, j, f1, c1, h, hf, hl => by
    obtain ⟨⟨f2, c2⟩, h1, h2⟩ := bS_inr h
    have cb := cbI j
    obtain ⟨o1, o2, o3⟩ := pCd_ok n 0 (P + cond j 1 0) _ _ _ _ _ _ h1 hf (by show (c.length : Int) + ((P + cond j 1 0 : Nat) : Int) + 0 ≤ _; omega)
    have l2 := ln_j c2 j 2004
    have h2 : cif (pWd T E [97, 110, 100] f2) (pCd T E n 1 d (pSk T E (pWe T E f2)) (c2 ++ cond j [2004] []) true) (Sum.inr (f2, c2 ++ cond j [2004] [])) = Sum.inr (f1, c1) := h2
    by_cases w : pWd T E [97, 110, 100] f2
    · rw [cif_t w] at h2
      have g0 := pSk_ge T E (pWe T E f2)
      have g1 : pWe T E f2 - f2 = 3 := w.1
      obtain ⟨q1, q2, q3⟩ := pCd_ok n 1 P _ _ _ _ _ _ h2 (pOk_we o1) (by show _ + (P : Int) + 1 ≤ _; omega)
      exact ⟨q1, by omega, q3⟩
    · rw [cif_f w] at h2
      cases h2
      exact ⟨o1, o2, by omega⟩
  | n + 1, k + 2, P, d, f, c, j, f1, c1, h, hf, hl => by
    obtain ⟨⟨f2, c2⟩, h1, h2⟩ := bS_inr h
    have cb := cbI j
    obtain ⟨o1, o2, o3⟩ := pCd_ok n 1 (P + cond j 1 0) _ _ _ _ _ _ h1 hf (by show (c.length : Int) + ((P + cond j 1 0 : Nat) : Int) + 0 ≤ _; omega)
    have l2 := ln_j c2 j 2005
    have h2 : cif (pWd T E [111, 114] f2) (pCd T E n 2 d (pSk T E (pWe T E f2)) (c2 ++ cond j [2005] []) true) (Sum.inr (f2, c2 ++ cond j [2005] [])) = Sum.inr (f1, c1) := h2
    by_cases w : pWd T E [111, 114] f2
    · rw [cif_t w] at h2
      have g0 := pSk_ge T E (pWe T E f2)
      have g1 : pWe T E f2 - f2 = 2 := w.1
      obtain ⟨q1, q2, q3⟩ := pCd_ok n 2 P _ _ _ _ _ _ h2 (pOk_we o1) (by show _ + (P : Int) + 1 ≤ _; omega)
      exact ⟨q1, by omega, q3⟩
    · rw [cif_f w] at h2
      cases h2
      exact ⟨o1, o2, by omega⟩
end
section
/-! fx: the class reads the law: facts, parts, sums -/
/-- nothing but where the text stands, and the steps -/
def fLX (g0 g : Nat → Nat → Int) : Prop := ∀ c j, ¬ (c = 34 ∧ (j = 1 ∨ j = 2 ∨ j = 3)) → ¬ (c = 35 ∧ j = 8) → c ≠ 40 → g c j = g0 c j
theorem fLX.rf {g : Nat → Nat → Int} : fLX g g := fun _ _ _ _ _ => rfl
theorem fLX.tr {g g1 g2 : Nat → Nat → Int} (h : fLX g g1) (h2 : fLX g1 g2) : fLX g g2 := fun c j a b d => by rw [h2 c j a b d, h c j a b d]
theorem fLX.w {g0 g : Nat → Nat → Int} {z : Int} (h : fLX g0 g) : fLX g0 (fu g 34 1 z) := fun c j a b d => by rw [fu_ne (fun t => a ⟨t.1, Or.inl t.2⟩)]; exact h c j a b d
theorem fLX.a {T : Int → Int} {E f : Int} {g0 g : Nat → Nat → Int} (h : fLX g0 g) : fLX g0 (cAtL T E g f) := fun c j a b d => by
  unfold cAtL
  rw [fu_ne (fun t => a ⟨t.1, Or.inr (Or.inr t.2)⟩), fu_ne (fun t => a ⟨t.1, Or.inr (Or.inl t.2)⟩)]
  exact h c j a b d
/-- the class stands at f, the steps c are written -/
def lwS (T : Int → Int) (E : Int) (g0 g : Nat → Nat → Int) (f : Int) (c : List Int) : Prop := cStL T E g f ∧ g 35 8 = c.length ∧ (∀ j : Nat, j < c.length → g 40 j = c.getD j 0) ∧ fLX g0 g
theorem lwS.to {T : Int → Int} {E f f' : Int} {g0 g : Nat → Nat → Int} {c : List Int} (h : lwS T E g0 g f c) (hf : pOk T E f') : lwS T E g0 (cAtL T E g f') f' c := by
  obtain ⟨h1, h2, h3, h4⟩ := h
  have n : ∀ c j, c ≠ 34 → cAtL T E g f' c j = g c j := fun c j hc => by
    unfold cAtL
    rw [fu_nc hc, fu_nc hc]
  exact ⟨cSt_atL h1.1 hf, by rw [n _ _ (by decide)]; exact h2, fun j hj => by rw [n _ _ (by decide)]; exact h3 j hj, h4.a⟩
section G5B
variable {W : ax_W} {r : Nat} {g g0 : Nat → Nat → Int} {Q : Nat → Nat → (Nat → Nat → Int) → Prop} {T : Int → Int} {E f : Int} {c : List Int}
theorem sp_lemit {s : Int} (h : lwS T E g0 g f c) (hl : c.length < 400) (hs : fR s) (kq : ∀ g', lwS T E g0 g' f (c ++ [s]) → Q 1 (fI 1) g') : fx W r 0 107 0 [282, fI s] [] g Q := by
  obtain ⟨h1, h2, h3, h4⟩ := h
  unfold fR at hs
  refine fx_la 0 1 (v := 282) (by decide +kernel) rfl (by decide +kernel) ?_
  refine fx_gi 282 35 8 4 (by decide +kernel) ?_
  refine fx_ci (400) 7 (by decide +kernel) ?_
  refine fx_ilt 12 10 (by decide +kernel) (by first | exact hg 35 8 (by decide) (by decide +kernel) (by decide +kernel) | (unfold fR; omega)) (by unfold fR; omega) (fun h7 => ?_) (fun h7 => ?_)
  · refine fx_la 0 13 (v := 282) (by decide +kernel) rfl (by decide +kernel) ?_
    refine fx_gp 282 35 4 322 16 (by decide +kernel) ?_
    refine fx_la 0 17 (v := 282) (by decide +kernel) rfl (by decide +kernel) ?_
    refine fx_gi 282 35 8 20 (by decide +kernel) ?_
    refine fx_li 1 21 (by decide +kernel) rfl ?_
    refine fx_as 322 40 400 22 (by decide +kernel) rfl (by omega) (by omega) rfl (by unfold fR; omega) ?_
    refine fx_la 0 23 (v := 282) (by decide +kernel) rfl (by decide +kernel) ?_
    refine fx_dup 24 (by decide +kernel) rfl (by decide) ?_
    refine fx_gi 282 35 8 27 (by decide +kernel) ?_
    try simp only [fu_app, fcy_app, Nat.reduceEqDiff, and_true, and_false, false_and, true_and, if_true, if_false, ite_true, ite_false, reduceIte, Int.reduceToNat, fx_simp0]
    refine fx_ci (1) 28 (by decide +kernel) ?_
    refine fx_add 29 (by decide +kernel) rfl ?_
    refine fx_pi 282 35 8 32 (by decide +kernel) (by unfold fR; omega) ?_
    refine fx_ci (1) 33 (by decide +kernel) ?_
    refine fx_retb (by decide +kernel) (by first | exact Or.inl rfl | exact Or.inr rfl | omega) ?_
    refine kq _ ⟨?_, ?_, fun j hj => ?_, fun c' j a b d => ?_⟩
    · obtain ⟨a1, a2, a3, a4⟩ := h1
      refine ⟨CT_eqL a1 (by rw [fu_nc (by decide), fu_nc (by decide)]) (fun j => by rw [fu_nc (by decide), fu_nc (by decide)]), ?_, ?_, a4⟩
      · rw [fu_nc (by decide), fu_nc (by decide)]; exact a2
      · rw [fu_nc (by decide), fu_nc (by decide)]; exact a3
    · rw [fu_eq, h2, List.length_append]
      simp
    · rw [fu_nc (by decide), h2, show ((c.length : Int)).toNat = c.length from rfl]
      by_cases e : j = c.length
      · subst e
        rw [fu_eq, List.getD_eq_getElem?_getD, List.getElem?_append_right (Nat.le_refl _)]
        simp
      · have hj2 : j < c.length := by rw [List.length_append] at hj; simp at hj; omega
        rw [fu_nj e, h3 j hj2, List.getD_eq_getElem?_getD, List.getD_eq_getElem?_getD, List.getElem?_append_left hj2]
    · rw [fu_ne b, fu_nc d]
      exact h4 c' j a b d
  · refine fx_ci (0) 11 (by decide +kernel) ?_
    refine fx_retb (by decide +kernel) (by first | exact Or.inl rfl | exact Or.inr rfl | omega) ?_
    exfalso; omega
theorem sp_lIsW {s : Nat} (ws : List Nat) (hw : f_swb s ws = true) (hw2 : f_lw ws = true) (h : cStL T E g f) (k1 : pWd T E ws f → Q 1 (fI 1) g) (k2 : ¬ pWd T E ws f → Q 1 (fI 0) g) : fx W r 4 79 0 [274, s, 7] [] g Q := by
  obtain ⟨hs, he⟩ := f_sw hw
  obtain ⟨l1, l2⟩ := f_and hw2
  have hne : ws ≠ [] := fun t => by rw [t] at l1; cases l1
  have hl : ∀ b ∈ ws, 97 ≤ b ∧ b ≤ 122 := fun b hb => by
    obtain ⟨q1, q2⟩ := f_and (List.all_eq_true.mp l2 b hb)
    exact ⟨sx_ble q1, sx_ble q2⟩
  have hi := pWd_iff (T := T) (E := E) (f := f) h.2.2.2.2.1 hne hl
  refine sp_isWordL h hs (fun b => ?_) (fun b => ?_)
  · rw [he] at b
    exact k1 (hi.mp b)
  · rw [he] at b
    exact k2 (fun t => b (hi.mpr t))
theorem sp_lfact (h : cStL T E g f) (kq : Q 1 (fI (pFact T E f)) g) : fx W r 5 109 0 [274] [] g Q := by
  have hf := h.2.2.2.2.1
  unfold pFact at kq
  refine fx_la 0 1 (v := 274) (by decide +kernel) rfl (by decide +kernel) ?_
  refine fx_lds 189 3 (by decide +kernel) ?_
  refine fx_c2 79 21 6 4 [7] (by decide +kernel) (by decide) (by decide) (by decide) rfl (by first | decide | omega) ?_
  refine sp_lIsW [112, 101, 114, 115, 111, 110] (by decide +kernel) (by decide +kernel) h (fun t1 => fK1 ?_) (fun t1 => fK1 ?_)
  · refine fx_zeq 13 9 (by decide +kernel) (by unfold fR; omega) (fun hc => absurd hc (by decide)) (fun _ => ?_)
    refine fx_ci (1000) 12 (by decide +kernel) ?_
    refine fx_ret (by decide +kernel) ?_
    rw [cif_t t1] at kq; exact kq
  · refine fx_zeq 13 9 (by decide +kernel) (by unfold fR; omega) (fun _ => ?_) (fun hc => absurd hc (by decide))
    refine fx_la 0 14 (v := 274) (by decide +kernel) rfl (by decide +kernel) ?_
    refine fx_lds 197 16 (by decide +kernel) ?_
    refine fx_c2 79 21 19 4 [7] (by decide +kernel) (by decide) (by decide) (by decide) rfl (by first | decide | omega) ?_
    refine sp_lIsW [112, 108, 97, 99, 101] (by decide +kernel) (by decide +kernel) h (fun t2 => fK1 ?_) (fun t2 => fK1 ?_)
    · refine fx_zeq 26 22 (by decide +kernel) (by unfold fR; omega) (fun hc => absurd hc (by decide)) (fun _ => ?_)
      refine fx_ci (1001) 25 (by decide +kernel) ?_
      refine fx_ret (by decide +kernel) ?_
      rw [cif_f t1, cif_t t2] at kq; exact kq
    · refine fx_zeq 26 22 (by decide +kernel) (by unfold fR; omega) (fun _ => ?_) (fun hc => absurd hc (by decide))
      refine fx_la 0 27 (v := 274) (by decide +kernel) rfl (by decide +kernel) ?_
      refine fx_lds 205 29 (by decide +kernel) ?_
      refine fx_c2 79 21 32 4 [7] (by decide +kernel) (by decide) (by decide) (by decide) rfl (by first | decide | omega) ?_
      refine sp_lIsW [100, 105, 115, 104] (by decide +kernel) (by decide +kernel) h (fun t3 => fK1 ?_) (fun t3 => fK1 ?_)
      · refine fx_zeq 39 35 (by decide +kernel) (by unfold fR; omega) (fun hc => absurd hc (by decide)) (fun _ => ?_)
        refine fx_ci (1002) 38 (by decide +kernel) ?_
        refine fx_ret (by decide +kernel) ?_
        rw [cif_f t1, cif_f t2, cif_t t3] at kq; exact kq
      · refine fx_zeq 39 35 (by decide +kernel) (by unfold fR; omega) (fun _ => ?_) (fun hc => absurd hc (by decide))
        refine fx_la 0 40 (v := 274) (by decide +kernel) rfl (by decide +kernel) ?_
        refine fx_lds 213 42 (by decide +kernel) ?_
        refine fx_c2 79 21 45 4 [7] (by decide +kernel) (by decide) (by decide) (by decide) rfl (by first | decide | omega) ?_
        refine sp_lIsW [99, 111, 108, 100] (by decide +kernel) (by decide +kernel) h (fun t4 => fK1 ?_) (fun t4 => fK1 ?_)
        · refine fx_zeq 52 48 (by decide +kernel) (by unfold fR; omega) (fun hc => absurd hc (by decide)) (fun _ => ?_)
          refine fx_ci (1003) 51 (by decide +kernel) ?_
          refine fx_ret (by decide +kernel) ?_
          rw [cif_f t1, cif_f t2, cif_f t3, cif_t t4] at kq; exact kq
        · refine fx_zeq 52 48 (by decide +kernel) (by unfold fR; omega) (fun _ => ?_) (fun hc => absurd hc (by decide))
          refine fx_la 0 53 (v := 274) (by decide +kernel) rfl (by decide +kernel) ?_
          refine fx_lds 221 55 (by decide +kernel) ?_
          refine fx_c2 79 21 58 4 [7] (by decide +kernel) (by decide) (by decide) (by decide) rfl (by first | decide | omega) ?_
          refine sp_lIsW [118, 111, 116, 101] (by decide +kernel) (by decide +kernel) h (fun t5 => fK1 ?_) (fun t5 => fK1 ?_)
          · refine fx_zeq 65 61 (by decide +kernel) (by unfold fR; omega) (fun hc => absurd hc (by decide)) (fun _ => ?_)
            refine fx_ci (1004) 64 (by decide +kernel) ?_
            refine fx_ret (by decide +kernel) ?_
            rw [cif_f t1, cif_f t2, cif_f t3, cif_f t4, cif_t t5] at kq; exact kq
          · refine fx_zeq 65 61 (by decide +kernel) (by unfold fR; omega) (fun _ => ?_) (fun hc => absurd hc (by decide))
            refine fx_la 0 66 (v := 274) (by decide +kernel) rfl (by decide +kernel) ?_
            refine fx_lds 229 68 (by decide +kernel) ?_
            refine fx_c2 79 21 71 4 [7] (by decide +kernel) (by decide) (by decide) (by decide) rfl (by first | decide | omega) ?_
            refine sp_lIsW [119, 101, 105, 103, 104, 116] (by decide +kernel) (by decide +kernel) h (fun t6 => fK1 ?_) (fun t6 => fK1 ?_)
            · refine fx_zeq 78 74 (by decide +kernel) (by unfold fR; omega) (fun hc => absurd hc (by decide)) (fun _ => ?_)
              refine fx_ci (1005) 77 (by decide +kernel) ?_
              refine fx_ret (by decide +kernel) ?_
              rw [cif_f t1, cif_f t2, cif_f t3, cif_f t4, cif_f t5, cif_t t6] at kq; exact kq
            · refine fx_zeq 78 74 (by decide +kernel) (by unfold fR; omega) (fun _ => ?_) (fun hc => absurd hc (by decide))
              refine fx_la 0 79 (v := 274) (by decide +kernel) rfl (by decide +kernel) ?_
              refine fx_lds 237 81 (by decide +kernel) ?_
              refine fx_c2 79 21 84 4 [7] (by decide +kernel) (by decide) (by decide) (by decide) rfl (by first | decide | omega) ?_
              refine sp_lIsW [110, 105, 103, 104, 116] (by decide +kernel) (by decide +kernel) h (fun t7 => fK1 ?_) (fun t7 => fK1 ?_)
              · refine fx_zeq 93 87 (by decide +kernel) (by unfold fR; omega) (fun hc => absurd hc (by decide)) (fun _ => ?_)
                refine fx_ci (1006) 90 (by decide +kernel) ?_
                refine fx_go 94 (by decide +kernel) ?_
                refine fx_ret (by decide +kernel) ?_
                rw [cif_f t1, cif_f t2, cif_f t3, cif_f t4, cif_f t5, cif_f t6, cif_t t7] at kq; exact kq
              · refine fx_zeq 93 87 (by decide +kernel) (by unfold fR; omega) (fun _ => ?_) (fun hc => absurd hc (by decide))
                refine fx_ci (-1) 94 (by decide +kernel) ?_
                refine fx_ret (by decide +kernel) ?_
                rw [cif_f t1, cif_f t2, cif_f t3, cif_f t4, cif_f t5, cif_f t6, cif_f t7] at kq; exact kq
/-- what is left of a sum: ahead of a part, or behind one -/
noncomputable def rS (T : Int → Int) (E : Int) (n : Nat) (f : Int) (c : List Int) (j : Bool) : Int ⊕ (Int × List Int) := cond j (cif (pSg T E 43 f) (pSum T E n (pSk T E (f + 1)) c true) (Sum.inr (f, c))) (pSum T E n f c false)
theorem sp_lpart {jv : Int} {j : Bool} {i : Int} {x3 : Nat} (hj : (jv = 0 ∧ j = false) ∨ (jv = 1 ∧ j = true)) (h : lwS T E g0 g f c) (hl : (c.length : Int) + jv ≤ f)
    (k1 : ∀ f1 v g' (y3 : Nat), pPart T E f = Sum.inr (f1, v) → lwS T E g0 g' f1 (c ++ (v :: cond j [2000] [])) → fx W r 6 108 85 [274, fI jv, fI i, y3] [] g' Q)
    (k2 : ∀ q g', pPart T E f = Sum.inl q → g' 34 1 = q → fLX g0 g' → Q 1 (fI 0) g') : fx W r 6 108 24 [274, fI jv, fI i, x3] [] g Q := by
  have hs := h.1
  have ok := hs.2.2.2
  have hE := hs.1.2.2.1
  have fb := pFact_b T E f
  refine fx_la 0 25 (v := 274) (by decide +kernel) rfl (by decide +kernel) ?_
  refine fx_c1 109 21 28 5 [] (by decide +kernel) (by decide) rfl (by first | decide | omega) ?_
  refine sp_lfact hs (fK1 ?_)
  refine fx_si 3 29 (by decide +kernel) (Or.inr (fI_n4 _)) rfl ?_
  dsimp only [List.set]
  refine fx_li 3 30 (by decide +kernel) rfl ?_
  refine fx_cn (-1) 31 (by decide +kernel) (fun v30 c30 => ?_)
  refine fx_ine 46 34 (by decide +kernel) (by unfold fR; omega) (by unfold fR; omega) (fun h31 => ?_) (fun h31 => ?_)
  · refine fx_la 0 47 (v := 274) (by decide +kernel) rfl (by decide +kernel) ?_
    refine fx_c1 74 21 50 0 [7] (by decide +kernel) (by decide) rfl (by first | decide | omega) ?_
    refine sp_advSL hs (fK0 ?_)
    have pe : pPart T E f = Sum.inr (pSk T E (pWe T E f), pFact T E f) := by unfold pPart; rw [cif_f (by omega)]
    have ln := (pPart_ok pe ok).2.1
    have ln2 := (pPart_ok pe ok).1.2.1
    have h2 : lwS T E g0 (cAtL T E g (pSk T E (pBh T E f))) (pSk T E (pWe T E f)) c := by
      have w := pFact_w (T := T) (E := E) (f := f) (by omega)
      rw [pBh_we (by omega)]
      exact h.to (pOk_we ok)
    refine fx_li 3 51 (by decide +kernel) rfl ?_
    refine fx_cn (-1) 52 (by decide +kernel) (fun v51 c51 => ?_)
    refine fx_ieq 83 55 (by decide +kernel) (by unfold fR; omega) (by unfold fR; omega) (fun h52 => ?_) (fun h52 => ?_)
    · refine fx_ci (0) 84 (by decide +kernel) ?_
      refine fx_retb (by decide +kernel) (by first | exact Or.inl rfl | exact Or.inr rfl | omega) ?_
      exfalso; omega
    · refine fx_la 0 56 (v := 274) (by decide +kernel) rfl (by decide +kernel) ?_
      refine fx_gp 274 34 5 282 59 (by decide +kernel) ?_
      refine fx_li 3 60 (by decide +kernel) rfl ?_
      refine fx_c2 107 21 63 0 [] (by decide +kernel) (by decide) (by decide) (fI_n4 _) rfl (by first | decide | omega) ?_
      refine sp_lemit h2 (by omega) (by unfold fR; omega) (fun g3 h3 => fK1 ?_)
      · refine fx_zeq 83 66 (by decide +kernel) (by unfold fR; omega) (fun hc => absurd hc (by decide)) (fun _ => ?_)
        refine fx_li 1 67 (by decide +kernel) rfl ?_
        refine fx_zeq 85 70 (by decide +kernel) (by unfold fR; omega) (fun h67 => ?_) (fun h67 => ?_)
        · rcases hj with ⟨-, rfl⟩ | ⟨e, -⟩
          · exact k1 _ _ _ _ pe h3
          · exfalso; omega
        · refine fx_la 0 71 (v := 274) (by decide +kernel) rfl (by decide +kernel) ?_
          refine fx_gp 274 34 5 282 74 (by decide +kernel) ?_
          refine fx_ci (2000) 77 (by decide +kernel) ?_
          refine fx_c2 107 21 80 0 [] (by decide +kernel) (by decide) (by decide) (fI_n4 _) rfl (by first | decide | omega) ?_
          refine sp_lemit h3 (by rw [List.length_append]; simp; omega) (by unfold fR; omega) (fun g4 h4 => fK1 ?_)
          · refine fx_zne 85 83 (by decide +kernel) (by unfold fR; omega) (fun _ => ?_) (fun hc => absurd hc (by decide))
            rcases hj with ⟨e, -⟩ | ⟨-, rfl⟩
            · exfalso; omega
            · refine k1 _ _ _ _ pe ?_
              rw [List.append_assoc] at h4
              exact h4
  · refine fx_la 0 35 (v := 274) (by decide +kernel) rfl (by decide +kernel) ?_
    refine fx_ci (0) 36 (by decide +kernel) ?_
    refine fx_ci (999) 39 (by decide +kernel) ?_
    refine fx_c3 93 21 42 1 [7, 7, 7] (by decide +kernel) (by decide) (by decide) (fI_n4 _) (fI_n4 _) rfl (by first | decide | omega) ?_
    refine sp_takeNumberL hs (by unfold fR; omega) (by unfold fR; omega) (fun t => fK1 ?_) (fun t vn hvn => fK1 ?_)
    have nb : 0 ≤ pNu T E f ∧ pNu T E f ≤ 999 := ⟨t.2.2.1, t.2.2.2⟩
    have pe : pPart T E f = Sum.inr (pSk T E (pDg T E f), pNu T E f) := by unfold pPart; rw [cif_t (by omega), cif_t t]
    have h2 := h.to (pOk_dg ok)
    have ln := (pPart_ok pe ok).2.1
    have ln2 := (pPart_ok pe ok).1.2.1
    · refine fx_si 3 43 (by decide +kernel) (Or.inr (fI_n4 _)) rfl ?_
      dsimp only [List.set]
      refine fx_go 50 (by decide +kernel) ?_
      refine fx_li 3 51 (by decide +kernel) rfl ?_
      refine fx_cn (-1) 52 (by decide +kernel) (fun v51 c51 => ?_)
      refine fx_ieq 83 55 (by decide +kernel) (by unfold fR; omega) (by unfold fR; omega) (fun h52 => ?_) (fun h52 => ?_)
      · refine fx_ci (0) 84 (by decide +kernel) ?_
        refine fx_retb (by decide +kernel) (by first | exact Or.inl rfl | exact Or.inr rfl | omega) ?_
        exfalso; omega
      · refine fx_la 0 56 (v := 274) (by decide +kernel) rfl (by decide +kernel) ?_
        refine fx_gp 274 34 5 282 59 (by decide +kernel) ?_
        refine fx_li 3 60 (by decide +kernel) rfl ?_
        refine fx_c2 107 21 63 0 [] (by decide +kernel) (by decide) (by decide) (fI_n4 _) rfl (by first | decide | omega) ?_
        refine sp_lemit h2 (by omega) (by unfold fR; omega) (fun g3 h3 => fK1 ?_)
        · refine fx_zeq 83 66 (by decide +kernel) (by unfold fR; omega) (fun hc => absurd hc (by decide)) (fun _ => ?_)
          refine fx_li 1 67 (by decide +kernel) rfl ?_
          refine fx_zeq 85 70 (by decide +kernel) (by unfold fR; omega) (fun h67 => ?_) (fun h67 => ?_)
          · rcases hj with ⟨-, rfl⟩ | ⟨e, -⟩
            · exact k1 _ _ _ _ pe h3
            · exfalso; omega
          · refine fx_la 0 71 (v := 274) (by decide +kernel) rfl (by decide +kernel) ?_
            refine fx_gp 274 34 5 282 74 (by decide +kernel) ?_
            refine fx_ci (2000) 77 (by decide +kernel) ?_
            refine fx_c2 107 21 80 0 [] (by decide +kernel) (by decide) (by decide) (fI_n4 _) rfl (by first | decide | omega) ?_
            refine sp_lemit h3 (by rw [List.length_append]; simp; omega) (by unfold fR; omega) (fun g4 h4 => fK1 ?_)
            · refine fx_zne 85 83 (by decide +kernel) (by unfold fR; omega) (fun _ => ?_) (fun hc => absurd hc (by decide))
              rcases hj with ⟨e, -⟩ | ⟨-, rfl⟩
              · exfalso; omega
              · refine k1 _ _ _ _ pe ?_
                rw [List.append_assoc] at h4
                exact h4
    · refine fx_si 3 43 (by decide +kernel) (Or.inr (fI_n4 _)) rfl ?_
      dsimp only [List.set]
      refine fx_go 50 (by decide +kernel) ?_
      refine fx_li 3 51 (by decide +kernel) rfl ?_
      refine fx_cn (-1) 52 (by decide +kernel) (fun v51 c51 => ?_)
      refine fx_ieq 83 55 (by decide +kernel) (by unfold fR; omega) (by unfold fR; omega) (fun h52 => ?_) (fun h52 => ?_)
      · refine fx_ci (0) 84 (by decide +kernel) ?_
        refine fx_retb (by decide +kernel) (by first | exact Or.inl rfl | exact Or.inr rfl | omega) ?_
        refine k2 f _ ?_ (fu_eq _ _ _ _) h.2.2.2.w
        unfold pPart
        rw [cif_t (by omega), cif_f t]
      · exfalso; omega
theorem sp_lsum_1 {R : Int ⊕ (Int × List Int)} (k1 : ∀ f1 c1 g', R = Sum.inr (f1, c1) → lwS T E g0 g' f1 c1 → Q 1 (fI 1) g') (k2 : ∀ q g', R = Sum.inl q → g' 34 1 = q → fLX g0 g' → Q 1 (fI 0) g') : ∀ (n i : Nat) (f : Int) (c : List Int) (jv : Int) (j : Bool) (g : Nat → Nat → Int) (x3 : Nat), i + n = 401 → i ≤ f → ((jv = 0 ∧ j = false ∧ i = 0) ∨ (jv = 1 ∧ j = true)) → lwS T E g0 g f c → (c.length : Int) ≤ f → rS T E n f c j = R → fx W r 6 108 4 [274, fI jv, fI (i : Int), x3] [] g Q
  | n, i, f, c, jv, j, g, x3, hn, hi, hj, h, hl, e => by
    have hs := h.1
    have ok := hs.2.2.2
    have hE := hs.1.2.2.1
    have hfE := ok.2.1
    refine fx_li 2 5 (by decide +kernel) rfl ?_
    refine fx_ci (400) 8 (by decide +kernel) ?_
    refine fx_ige 93 11 (by decide +kernel) (by unfold fR; omega) (by unfold fR; omega) (fun h8 => ?_) (fun h8 => ?_)
    · refine fx_ci (1) 94 (by decide +kernel) ?_
      refine fx_retb (by decide +kernel) (by first | exact Or.inl rfl | exact Or.inr rfl | omega) ?_
      rcases hj with ⟨-, -, e2⟩ | ⟨-, rfl⟩
      · exfalso; omega
      · refine k1 f c g ?_ h
        rw [← e]
        exact cif_f (fun t => by have := t.1; omega)
    · refine fx_li 1 12 (by decide +kernel) rfl ?_
      refine fx_zeq 24 15 (by decide +kernel) (by unfold fR; omega) (fun h12 => ?_) (fun h12 => ?_)
      · rcases hj with ⟨e1, rfl, e2⟩ | ⟨e1, -⟩
        · match n, hn, e with
          | 0, hn, e => exfalso; omega
          | n + 1, hn, e =>
            refine sp_lpart (j := false) (Or.inl ⟨e1, rfl⟩) h (by omega) (fun f1 v g' y3 p1 p2 => ?_) (fun q g' p1 p2 p3 => k2 q g' (by rw [← e]; show bS (pPart T E f) _ = _; rw [p1, bS_l]) p2 p3)
            have o := pPart_ok p1 ok
            have ln : ((c ++ [v]).length : Int) = c.length + 1 := ln_1 c v
            refine fx_ci 1 86 (by decide +kernel) ?_
            refine fx_si 1 87 (by decide +kernel) (Or.inr (f_n4p (v := 274) rfl (by decide))) rfl ?_
            dsimp only [List.set]
            refine fx_inc 2 90 1 (by decide +kernel) rfl (Or.inr (fI_n4 _)) rfl ?_
            dsimp only [List.set]
            refine fx_go 4 (by decide +kernel) ?_
            refine sp_lsum_1 k1 k2 n (i + 1) f1 (c ++ [v]) 1 true g' y3 (by omega) (by omega) (Or.inr ⟨rfl, rfl⟩) p2 (by omega) ?_
            rw [← e]
            show cif _ _ _ = bS (pPart T E f) _
            rw [p1, bS_r]
            rfl
        · exfalso; omega
      · refine fx_la 0 16 (v := 274) (by decide +kernel) rfl (by decide +kernel) ?_
        refine fx_ci (43) 18 (by decide +kernel) ?_
        refine fx_c2 106 21 21 1 [] (by decide +kernel) (by decide) (by decide) (fI_n4 _) rfl (by first | decide | omega) ?_
        refine sp_takesSignL hs (by unfold fR; omega) (by omega) (by omega) (fun t => fK1 ?_) (fun t => fK1 ?_)
        · refine fx_zeq 93 24 (by decide +kernel) (by unfold fR; omega) (fun hc => absurd hc (by decide)) (fun _ => ?_)
          rcases hj with ⟨e1, -⟩ | ⟨e1, rfl⟩
          · exfalso; omega
          · match n, hn, e with
            | 0, hn, e => exfalso; omega
            | n + 1, hn, e =>
              have e0 : pSum T E (n + 1) (pSk T E (f + 1)) c true = R := (cif_t t).symm.trans e
              have ok2 : pOk T E (pSk T E (f + 1)) := pOk_s1 ok t
              have g0' := pSk_ge T E (f + 1)
              refine sp_lpart (j := true) (Or.inr ⟨e1, rfl⟩) (h.to ok2) (by omega) (fun f1 v g' y3 p1 p2 => ?_) (fun q g' p1 p2 p3 => k2 q g' (by rw [← e0]; show bS (pPart T E _) _ = _; rw [p1, bS_l]) p2 p3)
              have o := pPart_ok p1 ok2
              have ln : ((c ++ [v, 2000]).length : Int) = c.length + 2 := by rw [List.length_append]; simp
              refine fx_ci 1 86 (by decide +kernel) ?_
              refine fx_si 1 87 (by decide +kernel) (Or.inr (f_n4p (v := 274) rfl (by decide))) rfl ?_
              dsimp only [List.set]
              refine fx_inc 2 90 1 (by decide +kernel) rfl (Or.inr (fI_n4 _)) rfl ?_
              dsimp only [List.set]
              refine fx_go 4 (by decide +kernel) ?_
              refine sp_lsum_1 k1 k2 n (i + 1) f1 (c ++ [v, 2000]) 1 true g' y3 (by omega) (by omega) (Or.inr ⟨rfl, rfl⟩) p2 (by omega) ?_
              rw [← e0]
              show cif _ _ _ = bS (pPart T E _) _
              rw [p1, bS_r]
              rfl
        · refine fx_zeq 93 24 (by decide +kernel) (by unfold fR; omega) (fun _ => ?_) (fun hc => absurd hc (by decide))
          refine fx_ci (1) 94 (by decide +kernel) ?_
          refine fx_retb (by decide +kernel) (by first | exact Or.inl rfl | exact Or.inr rfl | omega) ?_
          rcases hj with ⟨e1, -⟩ | ⟨-, rfl⟩
          · exfalso; omega
          · refine k1 f c g ?_ h
            rw [← e]
            exact cif_f t
theorem sp_lsum (h : lwS T E g0 g f c) (hl : (c.length : Int) ≤ f) (k1 : ∀ f1 c1 g', pSum T E 401 f c false = Sum.inr (f1, c1) → lwS T E g0 g' f1 c1 → Q 1 (fI 1) g') (k2 : ∀ q g', pSum T E 401 f c false = Sum.inl q → g' 34 1 = q → fLX g0 g' → Q 1 (fI 0) g') : fx W r 6 108 0 [274, 7, 7, 7] [] g Q := by
  refine fx_ci (0) 1 (by decide +kernel) ?_
  refine fx_si 1 2 (by decide +kernel) (Or.inr (f_n4p (v := 274) rfl (by decide))) rfl ?_
  dsimp only [List.set]
  refine fx_ci (0) 3 (by decide +kernel) ?_
  refine fx_si 2 4 (by decide +kernel) (Or.inr (fI_n4 _)) rfl ?_
  dsimp only [List.set]
  exact sp_lsum_1 k1 k2 401 0 f c 0 false g 7 rfl h.1.2.2.2.1 (Or.inl ⟨rfl, rfl, rfl⟩) h hl rfl
end G5B
end
section
/-! fx: the class reads the law: atoms, conditions -/
section PA
variable {T : Int → Int} {E f d : Int} {c : List Int} {j : Bool} {n : Nat}
theorem pA_p6 (t : pSg T E 40 f) (h : 6 ≤ d) : pCd T E (n + 1) 0 d f c j = Sum.inl f := (cif_t t).trans (cif_t h)
theorem pA_p (t : pSg T E 40 f) (h : ¬ 6 ≤ d) : pCd T E (n + 1) 0 d f c j = bS (pCd T E n 2 (d + 1) (pSk T E (f + 1)) c false) (fun a => cif (pSg T E 41 a.1) (Sum.inr (pSk T E (a.1 + 1), a.2)) (Sum.inl a.1)) := (cif_t t).trans (cif_f h)
theorem pA_n6 (t : ¬ pSg T E 40 f) (t1 : pWd T E [110, 111, 116] f) (h : 6 ≤ d) : pCd T E (n + 1) 0 d f c j = Sum.inl f := (cif_f t).trans ((cif_t t1).trans (cif_t h))
theorem pA_n (t : ¬ pSg T E 40 f) (t1 : pWd T E [110, 111, 116] f) (h : ¬ 6 ≤ d) : pCd T E (n + 1) 0 d f c j = bS (pCd T E n 0 (d + 1) (pSk T E (pWe T E f)) c false) (fun a => Sum.inr (a.1, a.2 ++ [2003])) := (cif_f t).trans ((cif_t t1).trans (cif_f h))
theorem pA_pr (t : ¬ pSg T E 40 f) (t1 : ¬ pWd T E [110, 111, 116] f) (t2 : pWd T E [112, 114, 111, 109, 105, 115, 101, 100] f) : pCd T E (n + 1) 0 d f c j = Sum.inr (pSk T E (pWe T E f), c ++ [1007]) := (cif_f t).trans ((cif_f t1).trans (cif_t t2))
theorem pA_th (t : ¬ pSg T E 40 f) (t1 : ¬ pWd T E [110, 111, 116] f) (t2 : ¬ pWd T E [112, 114, 111, 109, 105, 115, 101, 100] f) (t3 : pWd T E [116, 104, 114, 101, 101] f) : pCd T E (n + 1) 0 d f c j = Sum.inr (pSk T E (pWe T E f), c ++ [1008]) := (cif_f t).trans ((cif_f t1).trans ((cif_f t2).trans (cif_t t3)))
/-- two sums and the sign between -/
noncomputable def pCmp (T : Int → Int) (E f : Int) (c : List Int) : Int ⊕ (Int × List Int) := bS (pSum T E 401 f c false) (fun a => cif (pSg T E 60 a.1) (bS (pSum T E 401 (pSk T E (a.1 + 1)) a.2 false) (fun b => Sum.inr (b.1, b.2 ++ [2001])))
      (cif (pSg T E 62 a.1) (bS (pSum T E 401 (pSk T E (a.1 + 1)) a.2 false) (fun b => Sum.inr (b.1, b.2 ++ [2002]))) (Sum.inl a.1)))
theorem pA_s (t : ¬ pSg T E 40 f) (t1 : ¬ pWd T E [110, 111, 116] f) (t2 : ¬ pWd T E [112, 114, 111, 109, 105, 115, 101, 100] f) (t3 : ¬ pWd T E [116, 104, 114, 101, 101] f) : pCd T E (n + 1) 0 d f c j = pCmp T E f c := (cif_f t).trans ((cif_f t1).trans ((cif_f t2).trans (cif_f t3)))
theorem pCmp_l {f2 : Int} {c2 : List Int} (p : pSum T E 401 f c false = Sum.inr (f2, c2)) (t : pSg T E 60 f2) : pCmp T E f c = bS (pSum T E 401 (pSk T E (f2 + 1)) c2 false) (fun b => Sum.inr (b.1, b.2 ++ [2001])) := by
  unfold pCmp
  rw [p, bS_r]
  exact cif_t t
theorem pCmp_g {f2 : Int} {c2 : List Int} (p : pSum T E 401 f c false = Sum.inr (f2, c2)) (t : ¬ pSg T E 60 f2) (t2 : pSg T E 62 f2) : pCmp T E f c = bS (pSum T E 401 (pSk T E (f2 + 1)) c2 false) (fun b => Sum.inr (b.1, b.2 ++ [2002])) := by
  unfold pCmp
  rw [p, bS_r]
  exact (cif_f t).trans (cif_t t2)
theorem pCmp_w {f2 : Int} {c2 : List Int} (p : pSum T E 401 f c false = Sum.inr (f2, c2)) (t : ¬ pSg T E 60 f2) (t2 : ¬ pSg T E 62 f2) : pCmp T E f c = Sum.inl f2 := by
  unfold pCmp
  rw [p, bS_r]
  exact (cif_f t).trans (cif_f t2)
theorem pCmp_f {q : Int} (p : pSum T E 401 f c false = Sum.inl q) : pCmp T E f c = Sum.inl q := by
  unfold pCmp
  rw [p, bS_l]
end PA
/-- how an atom is read at the depth dp, and a condition -/
def AtS (T : Int → Int) (E dp : Int) (dd : Nat) : Prop := ∀ (W : ax_W) (r : Nat) (g g0 : Nat → Nat → Int) (Q : Nat → Nat → (Nat → Nat → Int) → Prop) (f : Int) (c : List Int) (n : Nat), lwS T E g0 g f c → (c.length : Int) + 1 ≤ f → 3 * (E - f) + 1 ≤ n → (∀ f1 c1 g', pCd T E n 0 dp f c false = Sum.inr (f1, c1) → lwS T E g0 g' f1 c1 → Q 1 (fI 1) g') → (∀ q g', pCd T E n 0 dp f c false = Sum.inl q → g' 34 1 = q → fLX g0 g' → Q 1 (fI 0) g') → fx W r dd 105 0 [274, fI dp, 7, 7, 7] [] g Q
def CoS (T : Int → Int) (E dp : Int) (dd : Nat) : Prop := ∀ (W : ax_W) (r : Nat) (g g0 : Nat → Nat → Int) (Q : Nat → Nat → (Nat → Nat → Int) → Prop) (f : Int) (c : List Int) (n : Nat), lwS T E g0 g f c → (c.length : Int) + 1 ≤ f → 3 * (E - f) + 3 ≤ n → (∀ f1 c1 g', pCd T E n 2 dp f c false = Sum.inr (f1, c1) → lwS T E g0 g' f1 c1 → Q 1 (fI 1) g') → (∀ q g', pCd T E n 2 dp f c false = Sum.inl q → g' 34 1 = q → fLX g0 g' → Q 1 (fI 0) g') → fx W r dd 104 0 [274, fI dp, 7, 7, 7] [] g Q
section G5C
variable {T : Int → Int} {E : Int}
theorem sp_latom {dp : Int} {dd e : Nat} (hd0 : 0 ≤ dp) (hd6 : dp ≤ 6) (hC : dp < 6 → CoS T E (dp + 1) e) (hA : dp < 6 → AtS T E (dp + 1) e) (he : e + 1 ≤ dd) (hdd : 9 ≤ dd) : AtS T E dp dd := fun W r g g0 Q f c n h hl hn k1 k2 => by
  have hs := h.1
  have ok := hs.2.2.2
  have hE := hs.1.2.2.1
  have hE0 := hs.1.2.1
  have ok1 := ok.1
  have ok2 := ok.2.1
  match n, hn, k1, k2 with
  | 0, hn, k1, k2 => exfalso; omega
  | n + 1, hn, k1, k2 =>
    refine fx_la 0 1 (v := 274) (by decide +kernel) rfl (by decide +kernel) ?_
    refine fx_gi 274 34 2 4 (by decide +kernel) ?_
    rw [show g 34 2 = f from hs.2.1]
    refine fx_si 2 5 (by decide +kernel) (Or.inr (fI_n4 _)) rfl ?_
    dsimp only [List.set]
    refine fx_la 0 6 (v := 274) (by decide +kernel) rfl (by decide +kernel) ?_
    refine fx_ci (40) 8 (by decide +kernel) ?_
    refine fx_c2 106 21 11 1 [] (by decide +kernel) (by decide) (by decide) (fI_n4 _) rfl (by first | decide | omega) ?_
    refine sp_takesSignL hs (by unfold fR; omega) (by omega) (by omega) (fun t => fK1 ?_) (fun t => fK1 ?_)
    · refine fx_si 3 12 (by decide +kernel) (Or.inr (fI_n4 _)) rfl ?_
      dsimp only [List.set]
      refine fx_li 3 13 (by decide +kernel) rfl ?_
      refine fx_zne 25 16 (by decide +kernel) (by unfold fR; omega) (fun _ => ?_) (fun hc => absurd hc (by decide))
      refine fx_li 1 26 (by decide +kernel) rfl ?_
      refine fx_ci (6) 28 (by decide +kernel) ?_
      refine fx_ilt 37 31 (by decide +kernel) (by unfold fR; omega) (by unfold fR; omega) (fun h28 => ?_) (fun h28 => ?_)
      · refine fx_li 3 38 (by decide +kernel) rfl ?_
        refine fx_zeq 77 41 (by decide +kernel) (by unfold fR; omega) (fun hc => absurd hc (by decide)) (fun _ => ?_)
        refine fx_la 0 42 (v := 274) (by decide +kernel) rfl (by decide +kernel) ?_
        refine fx_li 1 43 (by decide +kernel) rfl ?_
        refine fx_ci (1) 44 (by decide +kernel) ?_
        refine fx_add 45 (by decide +kernel) rfl ?_
        refine fx_c2 104 21 48 e [7, 7, 7] (by decide +kernel) (by decide) (by decide) (fI_n4 _) rfl (by first | decide | omega) ?_
        have g0' := pSk_ge T E (f + 1)
        refine hC (by omega) _ _ _ g0 _ _ c n (h.to (pOk_s1 ok t)) (by omega) (by omega) (fun f2 c2 g2 p1 h2 => fK1 ?_) (fun q g2 p1 p2 p3 => fK1 ?_)
        have o := pCd_ok n 2 0 _ _ _ _ _ _ p1 (pOk_s1 ok t) (by show (c.length : Int) + 0 + 0 ≤ _; omega)
        · refine fx_zeq 75 51 (by decide +kernel) (by unfold fR; omega) (fun hc => absurd hc (by decide)) (fun _ => ?_)
          refine fx_la 0 52 (v := 274) (by decide +kernel) rfl (by decide +kernel) ?_
          refine fx_ci (41) 54 (by decide +kernel) ?_
          refine fx_c2 106 21 57 1 [] (by decide +kernel) (by decide) (by decide) (fI_n4 _) rfl (by first | decide | omega) ?_
          refine sp_takesSignL h2.1 (by unfold fR; omega) (by omega) (by omega) (fun t2 => fK1 ?_) (fun t2 => fK1 ?_)
          · refine fx_zne 71 60 (by decide +kernel) (by unfold fR; omega) (fun _ => ?_) (fun hc => absurd hc (by decide))
            refine fx_ci (1) 72 (by decide +kernel) ?_
            refine fx_go 76 (by decide +kernel) ?_
            refine fx_retb (by decide +kernel) (by first | exact Or.inl rfl | exact Or.inr rfl | omega) ?_
            exact k1 _ c2 _ (by rw [pA_p t (by omega), p1, bS_r]; exact cif_t t2) (h2.to (pOk_s1 h2.1.2.2.2 t2))
          · refine fx_zne 71 60 (by decide +kernel) (by unfold fR; omega) (fun hc => absurd hc (by decide)) (fun _ => ?_)
            refine fx_la 0 61 (v := 274) (by decide +kernel) rfl (by decide +kernel) ?_
            refine fx_la 0 62 (v := 274) (by decide +kernel) rfl (by decide +kernel) ?_
            refine fx_gi 274 34 2 65 (by decide +kernel) ?_
            try simp only [fu_app, fcy_app, Nat.reduceEqDiff, and_true, and_false, false_and, true_and, if_true, if_false, ite_true, ite_false, reduceIte, Int.reduceToNat, fx_simp0]
            rw [show g2 34 2 = f2 from h2.1.2.1]
            refine fx_c2 92 21 68 0 [] (by decide +kernel) (by decide) (by decide) (fI_n4 _) rfl (by first | decide | omega) ?_
            refine sp_wrongAtL (by unfold fR; have := o.1.1; have := o.1.2.1; omega) (fK1 ?_)
            refine fx_zeq 75 71 (by decide +kernel) (by unfold fR; omega) (fun h68 => ?_) (fun h68 => ?_)
            · refine fx_ci (0) 76 (by decide +kernel) ?_
              refine fx_retb (by decide +kernel) (by first | exact Or.inl rfl | exact Or.inr rfl | omega) ?_
              exact k2 f2 _ (by rw [pA_p t (by omega), p1, bS_r]; exact cif_f t2) (fu_eq _ _ _ _) h2.2.2.2.w
            · exact absurd rfl h68
        · refine fx_zeq 75 51 (by decide +kernel) (by unfold fR; omega) (fun _ => ?_) (fun hc => absurd hc (by decide))
          refine fx_ci (0) 76 (by decide +kernel) ?_
          refine fx_retb (by decide +kernel) (by first | exact Or.inl rfl | exact Or.inr rfl | omega) ?_
          exact k2 q g2 (by rw [pA_p t (by omega), p1, bS_l]) p2 p3
      · refine fx_la 0 32 (v := 274) (by decide +kernel) rfl (by decide +kernel) ?_
        refine fx_li 2 33 (by decide +kernel) rfl ?_
        refine fx_c2 92 21 36 0 [] (by decide +kernel) (by decide) (by decide) (fI_n4 _) rfl (by first | decide | omega) ?_
        refine sp_wrongAtL (by unfold fR; omega) (fK1 ?_)
        refine fx_retb (by decide +kernel) (by first | exact Or.inl rfl | exact Or.inr rfl | omega) ?_
        exact k2 f _ (pA_p6 t (by omega)) (fu_eq _ _ _ _) (fLX.a h.2.2.2).w
    · refine fx_si 3 12 (by decide +kernel) (Or.inr (fI_n4 _)) rfl ?_
      dsimp only [List.set]
      refine fx_li 3 13 (by decide +kernel) rfl ?_
      refine fx_zne 25 16 (by decide +kernel) (by unfold fR; omega) (fun hc => absurd hc (by decide)) (fun _ => ?_)
      refine fx_la 0 17 (v := 274) (by decide +kernel) rfl (by decide +kernel) ?_
      refine fx_lds 165 19 (by decide +kernel) ?_
      refine fx_c2 78 21 22 5 [] (by decide +kernel) (by decide) (by decide) (by decide) rfl (by first | decide | omega) ?_
      refine sp_takesWordL [110, 111, 116] (by decide +kernel) (by decide +kernel) hs (fun t1 => fK1 ?_) (fun t1 => fK1 ?_)
      · refine fx_zeq 106 25 (by decide +kernel) (by unfold fR; omega) (fun hc => absurd hc (by decide)) (fun _ => ?_)
        refine fx_li 1 26 (by decide +kernel) rfl ?_
        refine fx_ci (6) 28 (by decide +kernel) ?_
        refine fx_ilt 37 31 (by decide +kernel) (by unfold fR; omega) (by unfold fR; omega) (fun h28 => ?_) (fun h28 => ?_)
        · refine fx_li 3 38 (by decide +kernel) rfl ?_
          refine fx_zeq 77 41 (by decide +kernel) (by unfold fR; omega) (fun _ => ?_) (fun hc => absurd hc (by decide))
          refine fx_la 0 78 (v := 274) (by decide +kernel) rfl (by decide +kernel) ?_
          refine fx_li 1 79 (by decide +kernel) rfl ?_
          refine fx_ci (1) 80 (by decide +kernel) ?_
          refine fx_add 81 (by decide +kernel) rfl ?_
          refine fx_c2 105 21 84 e [7, 7, 7] (by decide +kernel) (by decide) (by decide) (fI_n4 _) rfl (by first | decide | omega) ?_
          have g0' := pSk_ge T E (pWe T E f)
          have g1' : pWe T E f - f = 3 := t1.1
          refine hA (by omega) _ _ _ g0 _ _ c n (h.to (pOk_we ok)) (by omega) (by omega) (fun f2 c2 g2 p1 h2 => fK1 ?_) (fun q g2 p1 p2 p3 => fK1 ?_)
          have o := pCd_ok n 0 1 _ _ _ _ _ _ p1 (pOk_we ok) (by show (c.length : Int) + 1 + 0 ≤ _; omega)
          · refine fx_zeq 104 87 (by decide +kernel) (by unfold fR; omega) (fun hc => absurd hc (by decide)) (fun _ => ?_)
            refine fx_la 0 88 (v := 274) (by decide +kernel) rfl (by decide +kernel) ?_
            refine fx_gp 274 34 5 282 91 (by decide +kernel) ?_
            refine fx_ci (2003) 94 (by decide +kernel) ?_
            refine fx_c2 107 21 97 0 [] (by decide +kernel) (by decide) (by decide) (fI_n4 _) rfl (by first | decide | omega) ?_
            refine sp_lemit h2 (by have := o.1.2.1; omega) (by unfold fR; omega) (fun g3 h3 => fK1 ?_)
            · refine fx_zeq 104 100 (by decide +kernel) (by unfold fR; omega) (fun hc => absurd hc (by decide)) (fun _ => ?_)
              refine fx_ci (1) 101 (by decide +kernel) ?_
              refine fx_go 105 (by decide +kernel) ?_
              refine fx_retb (by decide +kernel) (by first | exact Or.inl rfl | exact Or.inr rfl | omega) ?_
              exact k1 _ _ _ (by rw [pA_n t t1 (by omega), p1, bS_r]) h3
          · refine fx_zeq 104 87 (by decide +kernel) (by unfold fR; omega) (fun _ => ?_) (fun hc => absurd hc (by decide))
            refine fx_ci (0) 105 (by decide +kernel) ?_
            refine fx_retb (by decide +kernel) (by first | exact Or.inl rfl | exact Or.inr rfl | omega) ?_
            exact k2 q g2 (by rw [pA_n t t1 (by omega), p1, bS_l]) p2 p3
        · refine fx_la 0 32 (v := 274) (by decide +kernel) rfl (by decide +kernel) ?_
          refine fx_li 2 33 (by decide +kernel) rfl ?_
          refine fx_c2 92 21 36 0 [] (by decide +kernel) (by decide) (by decide) (fI_n4 _) rfl (by first | decide | omega) ?_
          refine sp_wrongAtL (by unfold fR; omega) (fK1 ?_)
          refine fx_retb (by decide +kernel) (by first | exact Or.inl rfl | exact Or.inr rfl | omega) ?_
          exact k2 f _ (pA_n6 t t1 (by omega)) (fu_eq _ _ _ _) (fLX.a h.2.2.2).w
      · refine fx_zeq 106 25 (by decide +kernel) (by unfold fR; omega) (fun _ => ?_) (fun hc => absurd hc (by decide))
        refine fx_la 0 107 (v := 274) (by decide +kernel) rfl (by decide +kernel) ?_
        refine fx_lds 173 109 (by decide +kernel) ?_
        refine fx_c2 78 21 112 5 [] (by decide +kernel) (by decide) (by decide) (by decide) rfl (by first | decide | omega) ?_
        refine sp_takesWordL [112, 114, 111, 109, 105, 115, 101, 100] (by decide +kernel) (by decide +kernel) hs (fun t2 => fK1 ?_) (fun t2 => fK1 ?_)
        · refine fx_zeq 126 115 (by decide +kernel) (by unfold fR; omega) (fun hc => absurd hc (by decide)) (fun _ => ?_)
          refine fx_la 0 116 (v := 274) (by decide +kernel) rfl (by decide +kernel) ?_
          refine fx_gp 274 34 5 282 119 (by decide +kernel) ?_
          refine fx_ci (1007) 122 (by decide +kernel) ?_
          refine fx_c2 107 21 125 0 [] (by decide +kernel) (by decide) (by decide) (fI_n4 _) rfl (by first | decide | omega) ?_
          refine sp_lemit (h.to (pOk_we ok)) (by omega) (by unfold fR; omega) (fun g3 h3 => fK1 ?_)
          · refine fx_retb (by decide +kernel) (by first | exact Or.inl rfl | exact Or.inr rfl | omega) ?_
            exact k1 _ _ _ (pA_pr t t1 t2) h3
        · refine fx_zeq 126 115 (by decide +kernel) (by unfold fR; omega) (fun _ => ?_) (fun hc => absurd hc (by decide))
          refine fx_la 0 127 (v := 274) (by decide +kernel) rfl (by decide +kernel) ?_
          refine fx_lds 181 129 (by decide +kernel) ?_
          refine fx_c2 78 21 132 5 [] (by decide +kernel) (by decide) (by decide) (by decide) rfl (by first | decide | omega) ?_
          refine sp_takesWordL [116, 104, 114, 101, 101] (by decide +kernel) (by decide +kernel) hs (fun t3 => fK1 ?_) (fun t3 => fK1 ?_)
          · refine fx_zeq 146 135 (by decide +kernel) (by unfold fR; omega) (fun hc => absurd hc (by decide)) (fun _ => ?_)
            refine fx_la 0 136 (v := 274) (by decide +kernel) rfl (by decide +kernel) ?_
            refine fx_gp 274 34 5 282 139 (by decide +kernel) ?_
            refine fx_ci (1008) 142 (by decide +kernel) ?_
            refine fx_c2 107 21 145 0 [] (by decide +kernel) (by decide) (by decide) (fI_n4 _) rfl (by first | decide | omega) ?_
            refine sp_lemit (h.to (pOk_we ok)) (by omega) (by unfold fR; omega) (fun g3 h3 => fK1 ?_)
            · refine fx_retb (by decide +kernel) (by first | exact Or.inl rfl | exact Or.inr rfl | omega) ?_
              exact k1 _ _ _ (pA_th t t1 t2 t3) h3
          · refine fx_zeq 146 135 (by decide +kernel) (by unfold fR; omega) (fun _ => ?_) (fun hc => absurd hc (by decide))
            refine fx_la 0 147 (v := 274) (by decide +kernel) rfl (by decide +kernel) ?_
            refine fx_c1 108 21 150 6 [7, 7, 7] (by decide +kernel) (by decide) rfl (by first | decide | omega) ?_
            refine sp_lsum h (by omega) (fun f2 c2 g2 p1 h2 => fK1 ?_) (fun q g2 p1 p2 p3 => fK1 ?_)
            have o := pSum_ok (P := 0) _ _ _ _ _ _ p1 ok (by show (c.length : Int) + 0 + 0 ≤ _; omega)
            have o1 := o.1.1
            have o2 := o.1.2.1
            · refine fx_zne 155 153 (by decide +kernel) (by unfold fR; omega) (fun _ => ?_) (fun hc => absurd hc (by decide))
              refine fx_la 0 156 (v := 274) (by decide +kernel) rfl (by decide +kernel) ?_
              refine fx_ci (60) 158 (by decide +kernel) ?_
              refine fx_c2 106 21 161 1 [] (by decide +kernel) (by decide) (by decide) (fI_n4 _) rfl (by first | decide | omega) ?_
              refine sp_takesSignL h2.1 (by unfold fR; omega) (by omega) (by omega) (fun t4 => fK1 ?_) (fun t4 => fK1 ?_)
              · refine fx_si 4 163 (by decide +kernel) (Or.inr (fI_n4 _)) rfl ?_
                dsimp only [List.set]
                refine fx_li 4 165 (by decide +kernel) rfl ?_
                refine fx_zne 186 168 (by decide +kernel) (by unfold fR; omega) (fun _ => ?_) (fun hc => absurd hc (by decide))
                refine fx_la 0 187 (v := 274) (by decide +kernel) rfl (by decide +kernel) ?_
                refine fx_c1 108 21 190 6 [7, 7, 7] (by decide +kernel) (by decide) rfl (by first | decide | omega) ?_
                have g0' := pSk_ge T E (f2 + 1)
                have ok3 : pOk T E (pSk T E (f2 + 1)) := by first | exact pOk_s1 h2.1.2.2.2 t4 | exact pOk_s1 h2.1.2.2.2 t5
                refine sp_lsum (h2.to ok3) (by omega) (fun f3 c3 g3 p3 h3 => fK1 ?_) (fun q g3 p3 p4 p5 => fK1 ?_)
                have o' := pSum_ok (P := 1) _ _ _ _ _ _ p3 ok3 (by show (c2.length : Int) + 1 + 0 ≤ _; omega)
                have o3 := o'.1.2.1
                · refine fx_zeq 221 193 (by decide +kernel) (by unfold fR; omega) (fun hc => absurd hc (by decide)) (fun _ => ?_)
                  refine fx_la 0 194 (v := 274) (by decide +kernel) rfl (by decide +kernel) ?_
                  refine fx_gp 274 34 5 282 197 (by decide +kernel) ?_
                  refine fx_li 4 199 (by decide +kernel) rfl ?_
                  refine fx_zeq 208 202 (by decide +kernel) (by unfold fR; omega) (fun hc => absurd hc (by decide)) (fun _ => ?_)
                  refine fx_ci (2001) 205 (by decide +kernel) ?_
                  refine fx_go 211 (by decide +kernel) ?_
                  refine fx_c2 107 21 214 0 [] (by decide +kernel) (by decide) (by decide) (fI_n4 _) rfl (by first | decide | omega) ?_
                  refine sp_lemit h3 (by omega) (by unfold fR; omega) (fun g4 h4 => fK1 ?_)
                  · refine fx_zeq 221 217 (by decide +kernel) (by unfold fR; omega) (fun hc => absurd hc (by decide)) (fun _ => ?_)
                    refine fx_ci (1) 218 (by decide +kernel) ?_
                    refine fx_go 222 (by decide +kernel) ?_
                    refine fx_retb (by decide +kernel) (by first | exact Or.inl rfl | exact Or.inr rfl | omega) ?_
                    exact k1 _ _ _ (by rw [pA_s t t1 t2 t3, pCmp_l p1 t4, p3, bS_r]) h4
                · refine fx_zeq 221 193 (by decide +kernel) (by unfold fR; omega) (fun _ => ?_) (fun hc => absurd hc (by decide))
                  refine fx_ci (0) 222 (by decide +kernel) ?_
                  refine fx_retb (by decide +kernel) (by first | exact Or.inl rfl | exact Or.inr rfl | omega) ?_
                  exact k2 q g3 (by rw [pA_s t t1 t2 t3, pCmp_l p1 t4, p3, bS_l]) p4 p5
              · refine fx_si 4 163 (by decide +kernel) (Or.inr (fI_n4 _)) rfl ?_
                dsimp only [List.set]
                refine fx_li 4 165 (by decide +kernel) rfl ?_
                refine fx_zne 186 168 (by decide +kernel) (by unfold fR; omega) (fun hc => absurd hc (by decide)) (fun _ => ?_)
                refine fx_la 0 169 (v := 274) (by decide +kernel) rfl (by decide +kernel) ?_
                refine fx_ci (62) 171 (by decide +kernel) ?_
                refine fx_c2 106 21 174 1 [] (by decide +kernel) (by decide) (by decide) (fI_n4 _) rfl (by first | decide | omega) ?_
                refine sp_takesSignL h2.1 (by unfold fR; omega) (by omega) (by omega) (fun t5 => fK1 ?_) (fun t5 => fK1 ?_)
                · refine fx_zne 186 177 (by decide +kernel) (by unfold fR; omega) (fun _ => ?_) (fun hc => absurd hc (by decide))
                  refine fx_la 0 187 (v := 274) (by decide +kernel) rfl (by decide +kernel) ?_
                  refine fx_c1 108 21 190 6 [7, 7, 7] (by decide +kernel) (by decide) rfl (by first | decide | omega) ?_
                  have g0' := pSk_ge T E (f2 + 1)
                  have ok3 : pOk T E (pSk T E (f2 + 1)) := by first | exact pOk_s1 h2.1.2.2.2 t4 | exact pOk_s1 h2.1.2.2.2 t5
                  refine sp_lsum (h2.to ok3) (by omega) (fun f3 c3 g3 p3 h3 => fK1 ?_) (fun q g3 p3 p4 p5 => fK1 ?_)
                  have o' := pSum_ok (P := 1) _ _ _ _ _ _ p3 ok3 (by show (c2.length : Int) + 1 + 0 ≤ _; omega)
                  have o3 := o'.1.2.1
                  · refine fx_zeq 221 193 (by decide +kernel) (by unfold fR; omega) (fun hc => absurd hc (by decide)) (fun _ => ?_)
                    refine fx_la 0 194 (v := 274) (by decide +kernel) rfl (by decide +kernel) ?_
                    refine fx_gp 274 34 5 282 197 (by decide +kernel) ?_
                    refine fx_li 4 199 (by decide +kernel) rfl ?_
                    refine fx_zeq 208 202 (by decide +kernel) (by unfold fR; omega) (fun _ => ?_) (fun hc => absurd hc (by decide))
                    refine fx_ci (2002) 211 (by decide +kernel) ?_
                    refine fx_c2 107 21 214 0 [] (by decide +kernel) (by decide) (by decide) (fI_n4 _) rfl (by first | decide | omega) ?_
                    refine sp_lemit h3 (by omega) (by unfold fR; omega) (fun g4 h4 => fK1 ?_)
                    · refine fx_zeq 221 217 (by decide +kernel) (by unfold fR; omega) (fun hc => absurd hc (by decide)) (fun _ => ?_)
                      refine fx_ci (1) 218 (by decide +kernel) ?_
                      refine fx_go 222 (by decide +kernel) ?_
                      refine fx_retb (by decide +kernel) (by first | exact Or.inl rfl | exact Or.inr rfl | omega) ?_
                      exact k1 _ _ _ (by rw [pA_s t t1 t2 t3, pCmp_g p1 t4 t5, p3, bS_r]) h4
                  · refine fx_zeq 221 193 (by decide +kernel) (by unfold fR; omega) (fun _ => ?_) (fun hc => absurd hc (by decide))
                    refine fx_ci (0) 222 (by decide +kernel) ?_
                    refine fx_retb (by decide +kernel) (by first | exact Or.inl rfl | exact Or.inr rfl | omega) ?_
                    exact k2 q g3 (by rw [pA_s t t1 t2 t3, pCmp_g p1 t4 t5, p3, bS_l]) p4 p5
                · refine fx_zne 186 177 (by decide +kernel) (by unfold fR; omega) (fun hc => absurd hc (by decide)) (fun _ => ?_)
                  refine fx_la 0 178 (v := 274) (by decide +kernel) rfl (by decide +kernel) ?_
                  refine fx_la 0 179 (v := 274) (by decide +kernel) rfl (by decide +kernel) ?_
                  refine fx_gi 274 34 2 182 (by decide +kernel) ?_
                  try simp only [fu_app, fcy_app, Nat.reduceEqDiff, and_true, and_false, false_and, true_and, if_true, if_false, ite_true, ite_false, reduceIte, Int.reduceToNat, fx_simp0]
                  rw [show g2 34 2 = f2 from h2.1.2.1]
                  refine fx_c2 92 21 185 0 [] (by decide +kernel) (by decide) (by decide) (fI_n4 _) rfl (by first | decide | omega) ?_
                  refine sp_wrongAtL (by unfold fR; omega) (fK1 ?_)
                  refine fx_retb (by decide +kernel) (by first | exact Or.inl rfl | exact Or.inr rfl | omega) ?_
                  exact k2 f2 _ (by rw [pA_s t t1 t2 t3]; exact pCmp_w p1 t4 t5) (fu_eq _ _ _ _) h2.2.2.2.w
            · refine fx_zne 155 153 (by decide +kernel) (by unfold fR; omega) (fun hc => absurd hc (by decide)) (fun _ => ?_)
              refine fx_ci (0) 154 (by decide +kernel) ?_
              refine fx_retb (by decide +kernel) (by first | exact Or.inl rfl | exact Or.inr rfl | omega) ?_
              exact k2 q g2 (by rw [pA_s t t1 t2 t3]; exact pCmp_f p1) p2 p3
/-- behind an atom: what is left of what is joined by and -/
noncomputable def rE (T : Int → Int) (E d : Int) (m : Nat) (f : Int) (c : List Int) : Int ⊕ (Int × List Int) := cif (pWd T E [97, 110, 100] f) (pCd T E m 1 d (pSk T E (pWe T E f)) c true) (Sum.inr (f, c))
/-- behind that: what is left of what is joined by or -/
noncomputable def rO (T : Int → Int) (E d : Int) (n : Nat) (f : Int) (c : List Int) : Int ⊕ (Int × List Int) := cif (pWd T E [111, 114] f) (pCd T E n 2 d (pSk T E (pWe T E f)) c true) (Sum.inr (f, c))
theorem pCd_1 {d f : Int} {n : Nat} {c : List Int} {j : Bool} : pCd T E (n + 1) 1 d f c j = bS (pCd T E n 0 d f c false) (fun a => rE T E d n a.1 (a.2 ++ cond j [2004] [])) := rfl
theorem pCd_2 {d f : Int} {n : Nat} {c : List Int} {j : Bool} : pCd T E (n + 1) 2 d f c j = bS (pCd T E n 1 d f c false) (fun a => rO T E d n a.1 (a.2 ++ cond j [2005] [])) := rfl
theorem pWd_E {f : Int} {ws : List Nat} (hn : 0 < ws.length) (hf : f = E) : ¬ pWd T E ws f := fun t => by
  have h1 := pWd_lt hn t
  have h2 := pWe_le (T := T) (E := E) (i := f) (by omega)
  omega
section CO
variable {W : ax_W} {r : Nat} {g0 : Nat → Nat → Int} {Q : Nat → Nat → (Nat → Nat → Int) → Prop} {R : Int ⊕ (Int × List Int)} {dp : Int} {dd e : Nat}
theorem sp_lco_1 (hA : AtS T E dp e) (he : e + 1 ≤ dd) (hdd : 9 ≤ dd) (hdp : fR dp) (k2 : ∀ q g', R = Sum.inl q → g' 34 1 = q → fLX g0 g' → Q 1 (fI 0) g') {n : Nat} {jv : Int} {j : Bool} (hj : (jv = 0 ∧ j = false) ∨ (jv = 1 ∧ j = true)) {any : Int}
    {fm : Int} (kq : ∀ f c g' (y4 : Nat), fm ≤ f → (c.length : Int) ≤ f → lwS T E g0 g' f c → rO T E dp n f c = R → fx W r dd 104 102 [274, fI dp, fI jv, fI any, y4] [] g' Q) : ∀ (m : Nat) (al : Nat) (f : Int) (c : List Int) (g : Nat → Nat → Int), fm ≤ f → (al : Int) ≤ f → lwS T E g0 g f c → (c.length : Int) + jv ≤ f → 3 * (E - f) ≤ m → bS (rE T E dp m f c) (fun a => rO T E dp n a.1 (a.2 ++ cond j [2005] [])) = R → fx W r dd 104 37 [274, fI dp, fI jv, fI any, fI (al : Int)] [] g Q
  | m, al, f, c, g, hfm, hal, h, hl, hm, eR => by
    have hs := h.1
    have ok := hs.2.2.2
    have hE := hs.1.2.2.1
    have ok1 := ok.1
    have ok2 := ok.2.1
    -- behind the last one
    have out : ¬ pWd T E [97, 110, 100] f → fx W r dd 104 83 [274, fI dp, fI jv, fI any, fI (al : Int)] [] g Q := fun t => by
      have eR2 : rO T E dp n f (c ++ cond j [2005] []) = R := by
        rw [← eR]
        unfold rE
        rw [cif_f t, bS_r]
      refine fx_li 2 84 (by decide +kernel) rfl ?_
      refine fx_zeq 102 87 (by decide +kernel) (by unfold fR; omega) (fun h84 => ?_) (fun h84 => ?_)
      · rcases hj with ⟨-, rfl⟩ | ⟨e1, -⟩
        · rw [show c ++ cond false [2005] [] = c from List.append_nil c] at eR2
          exact kq f c g _ hfm (by omega) h eR2
        · exfalso; omega
      · refine fx_la 0 88 (v := 274) (by decide +kernel) rfl (by decide +kernel) ?_
        refine fx_gp 274 34 5 282 91 (by decide +kernel) ?_
        refine fx_ci (2005) 94 (by decide +kernel) ?_
        refine fx_c2 107 21 97 0 [] (by decide +kernel) (by decide) (by decide) (fI_n4 _) rfl (by first | decide | omega) ?_
        refine sp_lemit h (by omega) (by unfold fR; omega) (fun g3 h3 => fK1 ?_)
        · refine fx_zne 102 100 (by decide +kernel) (by unfold fR; omega) (fun _ => ?_) (fun hc => absurd hc (by decide))
          rcases hj with ⟨e1, -⟩ | ⟨e1, rfl⟩
          · exfalso; omega
          · have ln := ln_1 c 2005
            exact kq f _ g3 _ hfm (by omega) h3 eR2
    refine fx_li 4 39 (by decide +kernel) rfl ?_
    refine fx_ci (400) 42 (by decide +kernel) ?_
    refine fx_ige 83 45 (by decide +kernel) (by unfold fR; omega) (by unfold fR; omega) (fun h42 => ?_) (fun h42 => ?_)
    · exact out (pWd_E (by decide) (by omega))
    · refine fx_la 0 46 (v := 274) (by decide +kernel) rfl (by decide +kernel) ?_
      refine fx_lds 245 48 (by decide +kernel) ?_
      refine fx_c2 78 21 51 5 [] (by decide +kernel) (by decide) (by decide) (by decide) rfl (by first | decide | omega) ?_
      refine sp_takesWordL [97, 110, 100] (by decide +kernel) (by decide +kernel) hs (fun t => fK1 ?_) (fun t => fK1 ?_)
      · refine fx_zeq 83 54 (by decide +kernel) (by unfold fR; omega) (fun hc => absurd hc (by decide)) (fun _ => ?_)
        have g0' := pSk_ge T E (pWe T E f)
        have g1' : pWe T E f - f = 3 := t.1
        have g2' := pWe_le (T := T) (E := E) (i := f) ok2
        have eR1 : bS (pCd T E m 1 dp (pSk T E (pWe T E f)) c true) (fun a => rO T E dp n a.1 (a.2 ++ cond j [2005] [])) = R := by
          rw [← eR]
          unfold rE
          rw [cif_t t]
        match m, hm, eR1 with
        | 0, hm, eR1 => exfalso; omega
        | m + 1, hm, eR1 =>
          rw [pCd_1] at eR1
          refine fx_la 0 55 (v := 274) (by decide +kernel) rfl (by decide +kernel) ?_
          refine fx_li 1 56 (by decide +kernel) rfl ?_
          refine fx_c2 105 21 59 e [7, 7, 7] (by decide +kernel) (by decide) (by decide) (fI_n4 _) rfl (by first | decide | omega) ?_
          refine hA _ _ _ g0 _ _ c m (h.to (pOk_we ok)) (by omega) (by omega) (fun f2 c2 g2 p1 h2 => fK1 ?_) (fun q g2 p1 p2 p3 => fK1 ?_)
          have cj : ((cond j 1 0 : Nat) : Int) = jv := by rcases hj with ⟨rfl, rfl⟩ | ⟨rfl, rfl⟩ <;> rfl
          have o := pCd_ok m 0 (1 + cond j 1 0) _ _ _ _ _ _ p1 (pOk_we ok) (by show (c.length : Int) + ((1 + cond j 1 0 : Nat) : Int) + 0 ≤ _; omega)
          have o1 := o.1.2.1
          have o2 := o.2.1
          have o3 := o.2.2
          · refine fx_zeq 75 62 (by decide +kernel) (by unfold fR; omega) (fun hc => absurd hc (by decide)) (fun _ => ?_)
            refine fx_la 0 63 (v := 274) (by decide +kernel) rfl (by decide +kernel) ?_
            refine fx_gp 274 34 5 282 66 (by decide +kernel) ?_
            refine fx_ci (2004) 69 (by decide +kernel) ?_
            refine fx_c2 107 21 72 0 [] (by decide +kernel) (by decide) (by decide) (fI_n4 _) rfl (by first | decide | omega) ?_
            refine sp_lemit h2 (by omega) (by unfold fR; omega) (fun g3 h3 => fK1 ?_)
            · refine fx_zne 77 75 (by decide +kernel) (by unfold fR; omega) (fun _ => ?_) (fun hc => absurd hc (by decide))
              refine fx_inc 4 80 (1) (by decide +kernel) rfl (Or.inr (fI_n4 _)) rfl ?_
              dsimp only [List.set]
              refine fx_go 37 (by decide +kernel) ?_
              have ln := ln_1 c2 2004
              rw [p1, bS_r] at eR1
              exact sp_lco_1 hA he hdd hdp k2 hj kq m (al + 1) f2 (c2 ++ [2004]) g3 (by omega) (by omega) h3 (by omega) (by omega) eR1
          · refine fx_zeq 75 62 (by decide +kernel) (by unfold fR; omega) (fun _ => ?_) (fun hc => absurd hc (by decide))
            refine fx_ci (0) 76 (by decide +kernel) ?_
            refine fx_retb (by decide +kernel) (by first | exact Or.inl rfl | exact Or.inr rfl | omega) ?_
            exact k2 q g2 (by rw [← eR1, p1, bS_l, bS_l]) p2 p3
      · refine fx_zeq 83 54 (by decide +kernel) (by unfold fR; omega) (fun _ => ?_) (fun hc => absurd hc (by decide))
        exact out t
theorem sp_lco_2 (hA : AtS T E dp e) (he : e + 1 ≤ dd) (hdd : 9 ≤ dd) (hdp : fR dp) (k1 : ∀ f1 c1 g', R = Sum.inr (f1, c1) → lwS T E g0 g' f1 c1 → Q 1 (fI 1) g') (k2 : ∀ q g', R = Sum.inl q → g' 34 1 = q → fLX g0 g' → Q 1 (fI 0) g') : ∀ (n any : Nat) (f : Int) (c : List Int) (jv : Int) (j : Bool) (g : Nat → Nat → Int) (x4 : Nat), (any : Int) ≤ f → ((jv = 0 ∧ j = false ∧ any = 0) ∨ (jv = 1 ∧ j = true)) → lwS T E g0 g f c → (c.length : Int) ≤ f → (jv = 0 → (c.length : Int) + 1 ≤ f) → 3 * (E - f) + (3 - 3 * jv) ≤ n → cond j (rO T E dp n f c) (pCd T E n 2 dp f c false) = R → fx W r dd 104 4 [274, fI dp, fI jv, fI (any : Int), x4] [] g Q
  | n, any, f, c, jv, j, g, x4, hany, hj, h, hl, hl0, hn, eR => by
    have hs := h.1
    have ok := hs.2.2.2
    have hE := hs.1.2.2.1
    have ok1 := ok.1
    have ok2 := ok.2.1
    -- a group from f2 on
    have grp : ∀ (n' : Nat) (f2 : Int) (g2 : Nat → Nat → Int), n' + 1 ≤ n → (any : Int) + 1 ≤ f2 → lwS T E g0 g2 f2 c → (c.length : Int) + jv + 1 ≤ f2 + jv → (c.length : Int) + 1 ≤ f2 → 3 * (E - f2) + 3 ≤ n' + 1 → pCd T E (n' + 1) 2 dp f2 c j = R → fx W r dd 104 24 [274, fI dp, fI jv, fI (any : Int), x4] [] g2 Q := fun n' f2 g2 hn' ha2 h2 hl2 hl3 hm2 eR2 => by
      have okb := h2.1.2.2.2
      rw [pCd_2] at eR2
      match n', hn', hm2, eR2 with
      | 0, hn', hm2, eR2 => exfalso; have := okb.2.1; omega
      | m + 1, hn', hm2, eR2 =>
        rw [pCd_1] at eR2
        refine fx_la 0 25 (v := 274) (by decide +kernel) rfl (by decide +kernel) ?_
        refine fx_li 1 26 (by decide +kernel) rfl ?_
        refine fx_c2 105 21 29 e [7, 7, 7] (by decide +kernel) (by decide) (by decide) (fI_n4 _) rfl (by first | decide | omega) ?_
        refine hA _ _ _ g0 _ _ c m h2 hl3 (by omega) (fun f3 c3 g3 p1 h3 => fK1 ?_) (fun q g3 p1 p2 p3 => fK1 ?_)
        have cj : ((cond j 1 0 : Nat) : Int) = jv := by rcases hj with ⟨rfl, rfl, -⟩ | ⟨rfl, rfl⟩ <;> rfl
        have o := pCd_ok m 0 (cond j 1 0) _ _ _ _ _ _ p1 okb (by show (c.length : Int) + ((cond j 1 0 : Nat) : Int) + 0 ≤ _; omega)
        have o1 := o.1.2.1
        have o2 := o.2.1
        have o3 := o.2.2
        · refine fx_zne 34 32 (by decide +kernel) (by unfold fR; omega) (fun _ => ?_) (fun hc => absurd hc (by decide))
          refine fx_ci (0) 35 (by decide +kernel) ?_
          refine fx_si 4 37 (by decide +kernel) (Or.inr (fI_n4 _)) rfl ?_
          dsimp only [List.set]
          rw [p1, bS_r] at eR2
          rw [show c3 ++ cond false [2004] [] = c3 from List.append_nil c3] at eR2
          refine sp_lco_1 hA he hdd hdp k2 (hj.imp (fun t => ⟨t.1, t.2.1⟩) id) (fm := f3) (fun f4 c4 g4 y4 q1 q2 q3 q4 => ?_) m 0 f3 c3 g3 (Int.le_refl _) (by omega) h3 (by omega) (by omega) eR2
          refine fx_ci 1 103 (by decide +kernel) ?_
          refine fx_si 2 104 (by decide +kernel) (Or.inr (fI_n4 _)) rfl ?_
          dsimp only [List.set]
          refine fx_inc 3 107 1 (by decide +kernel) rfl (Or.inr (fI_n4 _)) rfl ?_
          dsimp only [List.set]
          refine fx_go 4 (by decide +kernel) ?_
          exact sp_lco_2 hA he hdd hdp k1 k2 (m + 1) (any + 1) f4 c4 1 true g4 y4 (by omega) (Or.inr ⟨rfl, rfl⟩) q3 q2 (by omega) (by omega) q4
        · refine fx_zne 34 32 (by decide +kernel) (by unfold fR; omega) (fun hc => absurd hc (by decide)) (fun _ => ?_)
          refine fx_ci (0) 33 (by decide +kernel) ?_
          refine fx_retb (by decide +kernel) (by first | exact Or.inl rfl | exact Or.inr rfl | omega) ?_
          exact k2 q g3 (by rw [← eR2, p1, bS_l, bS_l]) p2 p3
    refine fx_li 3 5 (by decide +kernel) rfl ?_
    refine fx_ci (400) 8 (by decide +kernel) ?_
    refine fx_ige 110 11 (by decide +kernel) (by unfold fR; omega) (by unfold fR; omega) (fun h8 => ?_) (fun h8 => ?_)
    · refine fx_ci (1) 111 (by decide +kernel) ?_
      refine fx_retb (by decide +kernel) (by first | exact Or.inl rfl | exact Or.inr rfl | omega) ?_
      rcases hj with ⟨-, -, e2⟩ | ⟨-, rfl⟩
      · exfalso; omega
      · exact k1 f c g (by rw [← eR]; exact cif_f (pWd_E (by decide) (by omega))) h
    · refine fx_li 2 12 (by decide +kernel) rfl ?_
      refine fx_zeq 24 15 (by decide +kernel) (by unfold fR; omega) (fun h12 => ?_) (fun h12 => ?_)
      · rcases hj with ⟨e1, rfl, e2⟩ | ⟨e1, -⟩
        · match n, hn, eR, grp with
          | 0, hn, eR, grp => exfalso; omega
          | n' + 1, hn, eR, grp => exact grp n' f g (Nat.le_refl _) (by omega) h (by omega) (by omega) (by omega) eR
        · exfalso; omega
      · refine fx_la 0 16 (v := 274) (by decide +kernel) rfl (by decide +kernel) ?_
        refine fx_lds 157 18 (by decide +kernel) ?_
        refine fx_c2 78 21 21 5 [] (by decide +kernel) (by decide) (by decide) (by decide) rfl (by first | decide | omega) ?_
        refine sp_takesWordL [111, 114] (by decide +kernel) (by decide +kernel) hs (fun t => fK1 ?_) (fun t => fK1 ?_)
        · refine fx_zeq 110 24 (by decide +kernel) (by unfold fR; omega) (fun hc => absurd hc (by decide)) (fun _ => ?_)
          rcases hj with ⟨e1, -⟩ | ⟨e1, rfl⟩
          · exfalso; omega
          · have g0' := pSk_ge T E (pWe T E f)
            have g1' : pWe T E f - f = 2 := t.1
            have g2' := pWe_le (T := T) (E := E) (i := f) ok2
            have eR1 : pCd T E n 2 dp (pSk T E (pWe T E f)) c true = R := (cif_t t).symm.trans eR
            match n, hn, eR1, grp with
            | 0, hn, eR1, grp => exfalso; omega
            | n' + 1, hn, eR1, grp => exact grp n' _ _ (Nat.le_refl _) (by omega) (h.to (pOk_we ok)) (by omega) (by omega) (by omega) eR1
        · refine fx_zeq 110 24 (by decide +kernel) (by unfold fR; omega) (fun _ => ?_) (fun hc => absurd hc (by decide))
          refine fx_ci (1) 111 (by decide +kernel) ?_
          refine fx_retb (by decide +kernel) (by first | exact Or.inl rfl | exact Or.inr rfl | omega) ?_
          rcases hj with ⟨e1, -⟩ | ⟨-, rfl⟩
          · exfalso; omega
          · exact k1 f c g (by rw [← eR]; exact cif_f t) h
end CO
end G5C
end
section
/-! fx: the class reads the law: conditions, lines -/
section LCX
variable {T : Int → Int} {E : Int}
theorem AtS.up {dp : Int} {dd dd' : Nat} (h : AtS T E dp dd) (hd : dd ≤ dd') : AtS T E dp dd' := fun W r g g0 Q f c n h1 h2 h3 k1 k2 => fx.up (h W r g g0 Q f c n h1 h2 h3 k1 k2) (Nat.le_refl _) hd
theorem sp_lcond {dp : Int} {dd e : Nat} (hA : AtS T E dp e) (he : e + 1 ≤ dd) (hdd : 9 ≤ dd) (hdp : fR dp) : CoS T E dp dd := fun W r g g0 Q f c n h hl hn k1 k2 => by
  have ok1 := h.1.2.2.2.1
  refine fx_ci (0) 1 (by decide +kernel) ?_
  refine fx_si 2 2 (by decide +kernel) (Or.inr (fI_n4 _)) rfl ?_
  dsimp only [List.set]
  refine fx_ci (0) 3 (by decide +kernel) ?_
  refine fx_si 3 4 (by decide +kernel) (Or.inr (fI_n4 _)) rfl ?_
  dsimp only [List.set]
  exact sp_lco_2 hA he hdd hdp k1 k2 n 0 f c 0 false g 7 ok1 (Or.inl ⟨rfl, rfl, rfl⟩) h (by omega) (fun _ => hl) (by omega) rfl
theorem sp_lAC : ∀ k : Nat, k ≤ 6 → AtS T E (6 - k) (9 + 2 * k) ∧ CoS T E (6 - k) (10 + 2 * k)
  | 0, _ => by
    have a : AtS T E (6 - ((0 : Nat) : Int)) (9 + 2 * 0) := sp_latom (e := 8) (by decide) (by decide) (fun t => absurd t (by decide)) (fun t => absurd t (by decide)) (by decide) (by decide)
    exact ⟨a, sp_lcond a (by decide) (by decide) (by unfold fR; decide)⟩
  | k + 1, hk => by
    obtain ⟨a, c⟩ := sp_lAC k (by omega)
    have e : 6 - ((k + 1 : Nat) : Int) + 1 = 6 - (k : Int) := by omega
    have a' : AtS T E (6 - ((k + 1 : Nat) : Int)) (9 + 2 * (k + 1)) := sp_latom (e := 10 + 2 * k) (by omega) (by omega) (fun _ => by rw [e]; exact c) (fun _ => by rw [e]; exact a.up (by omega)) (by omega) (by omega)
    exact ⟨a', sp_lcond a' (by omega) (by omega) (by unfold fR; omega)⟩
theorem sp_lC0 : CoS T E 0 22 := (sp_lAC (T := T) (E := E) 6 (Nat.le_refl _)).2
end LCX
/-- the kind of a line, by its word -/
noncomputable def pKind (T : Int → Int) (E f : Int) : Int := cif (pWd T E [109, 111, 114, 101] f) 0 (cif (pWd T E [108, 101, 115, 115] f) 1 (cif (pWd T E [111, 102, 102] f) 2 (-1)))
/-- behind kind and amount -/
noncomputable def pIf (T : Int → Int) (E f : Int) (c : List Int) (k a : Int) : Int ⊕ (Int × List Int × Int × Int) := cif (pWd T E [105, 102] f) (bS (pCd T E 1300 2 0 (pSk T E (pWe T E f)) c false) (fun b => Sum.inr (b.1, b.2, k, a))) (Sum.inr (f, c, k, a))
noncomputable def pLL (T : Int → Int) (E f : Int) (c : List Int) : Int ⊕ (Int × List Int × Int × Int) := cif (pKind T E f = -1) (Sum.inl f) (cif (pKind T E f = 2) (pIf T E (pSk T E (pWe T E f)) c 2 0) (cif (pN T E 0 30 (pSk T E (pWe T E f))) (pIf T E (pSk T E (pDg T E (pSk T E (pWe T E f)))) c (pKind T E f) (pNu T E (pSk T E (pWe T E f)))) (Sum.inl (pSk T E (pWe T E f)))))
/-- all lines, n at most; ls: those so far (kind, amount, from, behind) -/
noncomputable def pLs (T : Int → Int) (E : Int) : Nat → Int → List Int → List (List Int) → Int ⊕ (List Int × List (List Int))
  | 0, f, _, _ => Sum.inl f
  | n + 1, f, c, ls => bS (pLL T E f c) (fun a => if a.1 = E then Sum.inr (a.2.1, ls ++ [[a.2.2.1, a.2.2.2, (c.length : Int), (a.2.1.length : Int)]]) else if T a.1 = 59 then pLs T E n (pSk T E (a.1 + 1)) a.2.1 (ls ++ [[a.2.2.1, a.2.2.2, (c.length : Int), (a.2.1.length : Int)]]) else Sum.inl a.1)
noncomputable def pLaw (T : Int → Int) (E : Int) : Int ⊕ (List Int × List (List Int)) := if pSk T E 0 = E then Sum.inr ([], []) else pLs T E 12 (pSk T E 0) [] []
theorem pKind_w {T : Int → Int} {E f : Int} (h : pKind T E f ≠ -1) : f + 3 ≤ pWe T E f ∧ 0 ≤ pKind T E f ∧ pKind T E f ≤ 2 := by
  unfold pKind at h ⊢
  by_cases c1 : pWd T E [109, 111, 114, 101] f
  · have : pWe T E f - f = 4 := c1.1
    rw [cif_t c1]; omega
  · rw [cif_f c1] at h ⊢
    by_cases c2 : pWd T E [108, 101, 115, 115] f
    · have : pWe T E f - f = 4 := c2.1
      rw [cif_t c2]; omega
    · rw [cif_f c2] at h ⊢
      by_cases c3 : pWd T E [111, 102, 102] f
      · have : pWe T E f - f = 3 := c3.1
        rw [cif_t c3]; omega
      · rw [cif_f c3] at h; exact absurd rfl h
theorem pIf_ok {T : Int → Int} {E f f1 k a k1 a1 : Int} {c c1 : List Int} (h : pIf T E f c k a = Sum.inr (f1, c1, k1, a1)) (hf : pOk T E f) (hl : (c.length : Int) ≤ f) : pOk T E f1 ∧ f ≤ f1 ∧ (c1.length : Int) ≤ f1 ∧ k1 = k ∧ a1 = a := by
  unfold pIf at h
  by_cases w : pWd T E [105, 102] f
  · rw [cif_t w] at h
    have g0 := pSk_ge T E (pWe T E f)
    have g1 : pWe T E f - f = 2 := w.1
    obtain ⟨⟨f2, c2⟩, h1, h2⟩ := bS_inr h
    have h2 : (Sum.inr (f2, c2, k, a) : Int ⊕ (Int × List Int × Int × Int)) = Sum.inr (f1, c1, k1, a1) := h2
    cases h2
    obtain ⟨o1, o2, o3⟩ := pCd_ok 1300 2 0 _ _ _ _ _ _ h1 (pOk_we hf) (by show (c.length : Int) + 0 + 0 ≤ _; omega)
    exact ⟨o1, by omega, by omega, rfl, rfl⟩
  · rw [cif_f w] at h
    cases h
    exact ⟨hf, Int.le_refl _, hl, rfl, rfl⟩
theorem pLL_ok {T : Int → Int} {E f f1 k1 a1 : Int} {c c1 : List Int} (h : pLL T E f c = Sum.inr (f1, c1, k1, a1)) (hf : pOk T E f) (hl : (c.length : Int) ≤ f) : pOk T E f1 ∧ f + 1 ≤ f1 ∧ (c1.length : Int) ≤ f1 ∧ 0 ≤ k1 ∧ k1 ≤ 2 ∧ 0 ≤ a1 ∧ a1 ≤ 30 := by
  unfold pLL at h
  by_cases k : pKind T E f = -1
  · rw [cif_t k] at h; cases h
  · rw [cif_f k] at h
    have w := pKind_w k
    have g0 := pSk_ge T E (pWe T E f)
    by_cases k2 : pKind T E f = 2
    · rw [cif_t k2] at h
      obtain ⟨o1, o2, o3, rfl, rfl⟩ := pIf_ok h (pOk_we hf) (by omega)
      exact ⟨o1, by omega, o3, by decide, by decide, by decide, by decide⟩
    · rw [cif_f k2] at h
      by_cases n : pN T E 0 30 (pSk T E (pWe T E f))
      · rw [cif_t n] at h
        have g1 := pDg_ge T E (pSk T E (pWe T E f))
        have g2 := pSk_ge T E (pDg T E (pSk T E (pWe T E f)))
        obtain ⟨o1, o2, o3, rfl, rfl⟩ := pIf_ok h (pOk_dg (pOk_we hf)) (by omega)
        exact ⟨o1, by omega, o3, by omega, by omega, n.2.2.1, n.2.2.2⟩
      · rw [cif_f n] at h; cases h
end
section
/-! fx: the class reads the law: lines, the text -/
def lwL (g : Nat → Nat → Int) (ls : List (List Int)) : Prop := g 35 7 = (ls.length : Int) ∧ ∀ i : Nat, i < ls.length → g 36 i = (ls.getD i []).getD 0 0 ∧ g 37 i = (ls.getD i []).getD 1 0 ∧ g 38 i = (ls.getD i []).getD 2 0 ∧ g 39 i = (ls.getD i []).getD 3 0
def fLY (g0 g : Nat → Nat → Int) : Prop := ∀ c j, ¬ (c = 34 ∧ (j = 1 ∨ j = 2 ∨ j = 3)) → ¬ (c = 35 ∧ (j = 8 ∨ j = 7)) → ¬ (36 ≤ c ∧ c ≤ 40) → g c j = g0 c j
theorem fLY.rf {g : Nat → Nat → Int} : fLY g g := fun _ _ _ _ _ => rfl
theorem fLY.x {g0 g g' : Nat → Nat → Int} (h : fLY g0 g) (h2 : fLX g g') : fLY g0 g' := fun c j a b d => by rw [h2 c j a (fun t => b ⟨t.1, Or.inl t.2⟩) (by omega)]; exact h c j a b d
theorem fLY.tr {g0 g g' : Nat → Nat → Int} (h : fLY g0 g) (h2 : fLY g g') : fLY g0 g' := fun c j a b d => by rw [h2 c j a b d]; exact h c j a b d
theorem lwS.self {T : Int → Int} {E f : Int} {g0 g : Nat → Nat → Int} {c : List Int} (h : lwS T E g0 g f c) : lwS T E g g f c := ⟨h.1, h.2.1, h.2.2.1, fLX.rf⟩
/-- the class stands at f ahead of a line -/
def lwT (T : Int → Int) (E : Int) (g0 g : Nat → Nat → Int) (f : Int) (c : List Int) (ls : List (List Int)) : Prop := lwS T E g g f c ∧ lwL g ls ∧ fLY g0 g
theorem getD_ap {ls : List (List Int)} {x : List Int} {i : Nat} (h : i < ls.length) : (ls ++ [x]).getD i [] = ls.getD i [] := by
  rw [List.getD_eq_getElem?_getD, List.getD_eq_getElem?_getD, List.getElem?_append_left h]
theorem getD_ae {ls : List (List Int)} {x : List Int} : (ls ++ [x]).getD ls.length [] = x := by
  rw [List.getD_eq_getElem?_getD, List.getElem?_append_right (Nat.le_refl _)]
  simp
section G5E
variable {W : ax_W} {r : Nat} {g g0 : Nat → Nat → Int} {Q : Nat → Nat → (Nat → Nat → Int) → Prop} {T : Int → Int} {E f : Int} {c : List Int} {ls : List (List Int)}
def fOp (g : Nat → Nat → Int) (n : Nat) (kd am : Int) : Nat → Nat → Int := fu (fu (fu g 36 n kd) 37 n am) 38 n (g 35 8)
def fCl (g : Nat → Nat → Int) (n : Nat) : Nat → Nat → Int := fu (fu g 39 n (g 35 8)) 35 7 ((n : Int) + 1)
theorem sp_lopen {n : Nat} {kd am : Int} (hn : g 35 7 = (n : Int)) (h12 : n < 12) (hk : fR kd) (ha : fR am) (kq : Q 0 0 (fOp g n kd am)) : fx W r 0 103 0 [282, fI kd, fI am] [] g Q := by
  refine fx_rg (fun hg => ?_)
  have hk2 := hk
  have ha2 := ha
  have rs := hg 35 8 (by decide) (by decide +kernel) (by decide +kernel)
  unfold fR at hk2 ha2 rs
  refine fx_la 0 1 (v := 282) (by decide +kernel) rfl (by decide +kernel) ?_
  refine fx_gi 282 35 7 4 (by decide +kernel) ?_
  refine fx_zlt 49 7 (by decide +kernel) (by first | exact hg 35 7 (by decide) (by decide +kernel) (by decide +kernel) | (unfold fR; omega)) (fun h4 => ?_) (fun h4 => ?_)
  · exfalso; omega
  · refine fx_la 0 8 (v := 282) (by decide +kernel) rfl (by decide +kernel) ?_
    refine fx_gi 282 35 7 11 (by decide +kernel) ?_
    refine fx_ci (12) 13 (by decide +kernel) ?_
    refine fx_ige 49 16 (by decide +kernel) (by first | exact hg 35 7 (by decide) (by decide +kernel) (by decide +kernel) | (unfold fR; omega)) (by unfold fR; omega) (fun h13 => ?_) (fun h13 => ?_)
    · exfalso; omega
    · refine fx_la 0 17 (v := 282) (by decide +kernel) rfl (by decide +kernel) ?_
      refine fx_gp 282 35 0 290 20 (by decide +kernel) ?_
      refine fx_la 0 21 (v := 282) (by decide +kernel) rfl (by decide +kernel) ?_
      refine fx_gi 282 35 7 24 (by decide +kernel) ?_
      refine fx_li 1 25 (by decide +kernel) rfl ?_
      refine fx_as 290 36 12 26 (by decide +kernel) rfl (by omega) (by omega) rfl (by unfold fR; omega) ?_
      refine fx_la 0 27 (v := 282) (by decide +kernel) rfl (by decide +kernel) ?_
      refine fx_gp 282 35 1 298 30 (by decide +kernel) ?_
      refine fx_la 0 31 (v := 282) (by decide +kernel) rfl (by decide +kernel) ?_
      refine fx_gi 282 35 7 34 (by decide +kernel) ?_
      try simp only [fu_app, fcy_app, Nat.reduceEqDiff, and_true, and_false, false_and, true_and, if_true, if_false, ite_true, ite_false, reduceIte, Int.reduceToNat, fx_simp0]
      refine fx_li 2 35 (by decide +kernel) rfl ?_
      refine fx_as 298 37 12 36 (by decide +kernel) rfl (by omega) (by omega) rfl (by unfold fR; omega) ?_
      refine fx_la 0 37 (v := 282) (by decide +kernel) rfl (by decide +kernel) ?_
      refine fx_gp 282 35 2 306 40 (by decide +kernel) ?_
      refine fx_la 0 41 (v := 282) (by decide +kernel) rfl (by decide +kernel) ?_
      refine fx_gi 282 35 7 44 (by decide +kernel) ?_
      try simp only [fu_app, fcy_app, Nat.reduceEqDiff, and_true, and_false, false_and, true_and, if_true, if_false, ite_true, ite_false, reduceIte, Int.reduceToNat, fx_simp0]
      refine fx_la 0 45 (v := 282) (by decide +kernel) rfl (by decide +kernel) ?_
      refine fx_gi 282 35 8 48 (by decide +kernel) ?_
      try simp only [fu_app, fcy_app, Nat.reduceEqDiff, and_true, and_false, false_and, true_and, if_true, if_false, ite_true, ite_false, reduceIte, Int.reduceToNat, fx_simp0]
      refine fx_as 306 38 12 49 (by decide +kernel) rfl (by omega) (by omega) rfl (by unfold fR; omega) ?_
      rw [hn, show ((n : Int)).toNat = n from rfl]
      exact fx_vret (by decide +kernel) kq
theorem sp_lclose {n : Nat} (hn : g 35 7 = (n : Int)) (h12 : n < 12) (kq : Q 0 0 (fCl g n)) : fx W r 0 110 0 [282] [] g Q := by
  refine fx_rg (fun hg => ?_)
  have rs := hg 35 8 (by decide) (by decide +kernel) (by decide +kernel)
  unfold fR at rs
  refine fx_la 0 1 (v := 282) (by decide +kernel) rfl (by decide +kernel) ?_
  refine fx_gi 282 35 7 4 (by decide +kernel) ?_
  refine fx_zlt 39 7 (by decide +kernel) (by first | exact hg 35 7 (by decide) (by decide +kernel) (by decide +kernel) | (unfold fR; omega)) (fun h4 => ?_) (fun h4 => ?_)
  · exfalso; omega
  · refine fx_la 0 8 (v := 282) (by decide +kernel) rfl (by decide +kernel) ?_
    refine fx_gi 282 35 7 11 (by decide +kernel) ?_
    refine fx_ci (12) 13 (by decide +kernel) ?_
    refine fx_ige 39 16 (by decide +kernel) (by first | exact hg 35 7 (by decide) (by decide +kernel) (by decide +kernel) | (unfold fR; omega)) (by unfold fR; omega) (fun h13 => ?_) (fun h13 => ?_)
    · exfalso; omega
    · refine fx_la 0 17 (v := 282) (by decide +kernel) rfl (by decide +kernel) ?_
      refine fx_gp 282 35 3 314 20 (by decide +kernel) ?_
      refine fx_la 0 21 (v := 282) (by decide +kernel) rfl (by decide +kernel) ?_
      refine fx_gi 282 35 7 24 (by decide +kernel) ?_
      refine fx_la 0 25 (v := 282) (by decide +kernel) rfl (by decide +kernel) ?_
      refine fx_gi 282 35 8 28 (by decide +kernel) ?_
      refine fx_as 314 39 12 29 (by decide +kernel) rfl (by omega) (by omega) rfl (by first | exact hg 35 8 (by decide) (by decide +kernel) (by decide +kernel) | (unfold fR; omega)) ?_
      refine fx_la 0 30 (v := 282) (by decide +kernel) rfl (by decide +kernel) ?_
      refine fx_dup 31 (by decide +kernel) rfl (by decide) ?_
      refine fx_gi 282 35 7 34 (by decide +kernel) ?_
      try simp only [fu_app, fcy_app, Nat.reduceEqDiff, and_true, and_false, false_and, true_and, if_true, if_false, ite_true, ite_false, reduceIte, Int.reduceToNat, fx_simp0]
      refine fx_ci (1) 35 (by decide +kernel) ?_
      refine fx_add 36 (by decide +kernel) rfl ?_
      refine fx_pi 282 35 7 39 (by decide +kernel) (by unfold fR; omega) ?_
      rw [hn, show ((n : Int)).toNat = n from rfl]
      exact fx_vret (by decide +kernel) kq
theorem fOp_x {n : Nat} {kd am : Int} {c j : Nat} (h1 : c ≠ 36) (h2 : c ≠ 37) (h3 : c ≠ 38) : fOp g n kd am c j = g c j := by
  unfold fOp
  rw [fu_nc h3, fu_nc h2, fu_nc h1]
theorem fOp_S {n : Nat} {kd am : Int} (h : lwS T E g g f c) : lwS T E (fOp g n kd am) (fOp g n kd am) f c := by
  obtain ⟨⟨a1, a2, a3, a4⟩, h2, h3, -⟩ := h
  refine ⟨⟨CT_eqL a1 (fOp_x (by decide) (by decide) (by decide)) (fun j => fOp_x (by decide) (by decide) (by decide)), ?_, ?_, a4⟩, ?_, fun j hj => ?_, fLX.rf⟩
  · rw [fOp_x (by decide) (by decide) (by decide)]; exact a2
  · rw [fOp_x (by decide) (by decide) (by decide)]; exact a3
  · rw [fOp_x (by decide) (by decide) (by decide)]; exact h2
  · rw [fOp_x (by decide) (by decide) (by decide)]; exact h3 j hj
theorem fCl_S {n : Nat} (h : lwS T E g0 g f c) : lwS T E (fCl g n) (fCl g n) f c := by
  obtain ⟨⟨a1, a2, a3, a4⟩, h2, h3, -⟩ := h
  have x : ∀ c j, c ≠ 39 → ¬ (c = 35 ∧ j = 7) → fCl g n c j = g c j := fun c j q1 q2 => by
    unfold fCl
    rw [fu_ne q2, fu_nc q1]
  refine ⟨⟨CT_eqL a1 (x _ _ (by decide) (by decide)) (fun j => x _ _ (by decide) (by intro t; exact absurd t.1 (by decide))), ?_, ?_, a4⟩, ?_, fun j hj => ?_, fLX.rf⟩
  · rw [x _ _ (by decide) (by decide)]; exact a2
  · rw [x _ _ (by decide) (by decide)]; exact a3
  · rw [x _ _ (by decide) (by decide)]; exact h2
  · rw [x _ _ (by decide) (by intro t; exact absurd t.1 (by decide))]; exact h3 j hj
theorem fOp_Y {n : Nat} {kd am : Int} (h : fLY g0 g) : fLY g0 (fOp g n kd am) := fun c j a b d => by
  rw [fOp_x (by omega) (by omega) (by omega)]
  exact h c j a b d
theorem fCl_Y {n : Nat} (h : fLY g0 g) : fLY g0 (fCl g n) := fun c j a b d => by
  unfold fCl
  rw [fu_ne (fun t => b ⟨t.1, Or.inr t.2⟩), fu_nc (by omega)]
  exact h c j a b d
/-- the line's row -/
theorem lw_row {g g2 : Nat → Nat → Int} {kd am : Int} {c2 : List Int} {f2 : Int} (hL : lwL g ls) (hS : lwS T E g g f c) (h2 : lwS T E (fOp g ls.length kd am) g2 f2 c2) : lwL (fCl g2 ls.length) (ls ++ [[kd, am, (c.length : Int), (c2.length : Int)]]) := by
  obtain ⟨l1, l2⟩ := hL
  obtain ⟨-, s2, -, -⟩ := hS
  obtain ⟨-, t2, -, t4⟩ := h2
  have ln : ((ls ++ [[kd, am, (c.length : Int), (c2.length : Int)]]).length : Int) = ls.length + 1 := by rw [List.length_append]; simp
  have x : ∀ c j, (36 ≤ c ∧ c ≤ 38) → fCl g2 ls.length c j = fOp g ls.length kd am c j := fun c j hc => by
    unfold fCl
    rw [fu_nc (by omega), fu_nc (by omega)]
    exact t4 c j (by omega) (by omega) (by omega)
  have xb : ∀ j, fCl g2 ls.length 39 j = if j = ls.length then (c2.length : Int) else g 39 j := fun j => by
    unfold fCl
    rw [fu_nc (by decide)]
    by_cases e : j = ls.length
    · subst e; rw [fu_eq, if_pos rfl]; exact t2
    · rw [fu_nj e, if_neg e, t4 _ j (by omega) (by omega) (by decide), fOp_x (by decide) (by decide) (by decide)]
  refine ⟨by unfold fCl; rw [fu_eq, ln], fun i hi => ?_⟩
  rw [x _ i (by decide), x _ i (by decide), x _ i (by decide), xb i]
  by_cases e : i = ls.length
  · subst e
    rw [getD_ae, if_pos rfl]
    refine ⟨?_, ?_, ?_, rfl⟩
    · unfold fOp; rw [fu_nc (by decide), fu_nc (by decide), fu_eq]; rfl
    · unfold fOp; rw [fu_nc (by decide), fu_eq]; rfl
    · unfold fOp; rw [fu_eq, s2]; rfl
  · have hi2 : i < ls.length := by omega
    rw [getD_ap hi2, if_neg e]
    obtain ⟨q1, q2, q3, q4⟩ := l2 i hi2
    refine ⟨?_, ?_, ?_, q4⟩
    · unfold fOp; rw [fu_nc (by decide), fu_nc (by decide), fu_nj e]; exact q1
    · unfold fOp; rw [fu_nc (by decide), fu_nj e, fu_nc (by decide)]; exact q2
    · unfold fOp; rw [fu_nj e, fu_nc (by decide), fu_nc (by decide)]; exact q3
/-- behind kind and amount -/
theorem sp_lline_2 {kd am : Int} {R : Int ⊕ (Int × List Int × Int × Int)} (h : lwT T E g0 g f c ls) (hl : (c.length : Int) ≤ f) (h12 : ls.length < 12) (hk : fR kd) (ha : fR am) (eR : pIf T E f c kd am = R)
    (k1 : ∀ f1 c1 g', R = Sum.inr (f1, c1, kd, am) → lwT T E g0 g' f1 c1 (ls ++ [[kd, am, (c.length : Int), (c1.length : Int)]]) → Q 1 (fI 1) g') (k2 : ∀ q g', R = Sum.inl q → g' 34 1 = q → fLY g0 g' → Q 1 (fI 0) g') : fx W r 23 102 75 [274, fI kd, fI am] [] g Q := by
  obtain ⟨hS, hL, hY⟩ := h
  have ok := hS.1.2.2.2
  have ok1 := ok.1
  have ok2 := ok.2.1
  have hE := hS.1.1.2.2.1
  unfold pIf at eR
  refine fx_la 0 76 (v := 274) (by decide +kernel) rfl (by decide +kernel) ?_
  refine fx_gp 274 34 5 282 79 (by decide +kernel) ?_
  refine fx_li 1 80 (by decide +kernel) rfl ?_
  refine fx_li 2 81 (by decide +kernel) rfl ?_
  refine fx_c3 103 21 84 0 [] (by decide +kernel) (by decide) (by decide) (fI_n4 _) (fI_n4 _) rfl (by first | decide | omega) ?_
  refine sp_lopen hL.1 h12 hk ha (fK0 ?_)
  have hS2 := fOp_S (n := ls.length) (kd := kd) (am := am) hS
  have hY2 := fOp_Y (n := ls.length) (kd := kd) (am := am) hY
  refine fx_la 0 85 (v := 274) (by decide +kernel) rfl (by decide +kernel) ?_
  refine fx_lds 149 87 (by decide +kernel) ?_
  refine fx_c2 78 21 90 5 [] (by decide +kernel) (by decide) (by decide) (by decide) rfl (by first | decide | omega) ?_
  refine sp_takesWordL [105, 102] (by decide +kernel) (by decide +kernel) hS2.1 (fun t => fK1 ?_) (fun t => fK1 ?_)
  · refine fx_zeq 103 93 (by decide +kernel) (by unfold fR; omega) (fun hc => absurd hc (by decide)) (fun _ => ?_)
    refine fx_la 0 94 (v := 274) (by decide +kernel) rfl (by decide +kernel) ?_
    refine fx_ci (0) 95 (by decide +kernel) ?_
    refine fx_c2 104 21 98 22 [7, 7, 7] (by decide +kernel) (by decide) (by decide) (fI_n4 _) rfl (by first | decide | omega) ?_
    have g0' := pSk_ge T E (pWe T E f)
    have g1' : pWe T E f - f = 2 := t.1
    rw [cif_t t] at eR
    refine sp_lC0 _ _ _ (fOp g ls.length kd am) _ _ c 1300 (hS2.to (pOk_we ok)) (by omega) (by omega) (fun f2 c2 g2 p1 h2 => fK1 ?_) (fun q g2 p1 p2 p3 => fK1 ?_)
    rw [p1, bS_r] at eR
    · refine fx_zne 103 101 (by decide +kernel) (by unfold fR; omega) (fun _ => ?_) (fun hc => absurd hc (by decide))
      refine fx_la 0 104 (v := 274) (by decide +kernel) rfl (by decide +kernel) ?_
      refine fx_gp 274 34 5 282 107 (by decide +kernel) ?_
      refine fx_c1 110 21 110 0 [] (by decide +kernel) (by decide) rfl (by first | decide | omega) ?_
      refine sp_lclose (n := ls.length) (by rw [h2.2.2.2 _ _ (by omega) (by omega) (by decide), fOp_x (by decide) (by decide) (by decide)]; exact hL.1) h12 (fK0 ?_)
      refine fx_ci (1) 111 (by decide +kernel) ?_
      refine fx_retb (by decide +kernel) (by first | exact Or.inl rfl | exact Or.inr rfl | omega) ?_
      exact k1 f2 c2 _ eR.symm ⟨fCl_S h2, lw_row hL hS h2, fCl_Y (hY2.x h2.2.2.2)⟩
    · refine fx_zne 103 101 (by decide +kernel) (by unfold fR; omega) (fun hc => absurd hc (by decide)) (fun _ => ?_)
      refine fx_ci (0) 102 (by decide +kernel) ?_
      refine fx_retb (by decide +kernel) (by first | exact Or.inl rfl | exact Or.inr rfl | omega) ?_
      exact k2 q g2 (by rw [← eR, p1, bS_l]) p2 (hY2.x p3)
  · refine fx_zeq 103 93 (by decide +kernel) (by unfold fR; omega) (fun _ => ?_) (fun hc => absurd hc (by decide))
    refine fx_la 0 104 (v := 274) (by decide +kernel) rfl (by decide +kernel) ?_
    refine fx_gp 274 34 5 282 107 (by decide +kernel) ?_
    refine fx_c1 110 21 110 0 [] (by decide +kernel) (by decide) rfl (by first | decide | omega) ?_
    refine sp_lclose (n := ls.length) (by rw [fOp_x (by decide) (by decide) (by decide)]; exact hL.1) h12 (fK0 ?_)
    refine fx_ci (1) 111 (by decide +kernel) ?_
    refine fx_retb (by decide +kernel) (by first | exact Or.inl rfl | exact Or.inr rfl | omega) ?_
    rw [cif_f t] at eR
    exact k1 f c _ eR.symm ⟨fCl_S hS2, lw_row hL hS hS2, fCl_Y hY2⟩
theorem lwT_to {f' : Int} (h : lwT T E g0 g f c ls) (hf : pOk T E f') : lwT T E g0 (cAtL T E g f') f' c ls := by
  obtain ⟨hS, hL, hY⟩ := h
  have x : ∀ c j, c ≠ 34 → cAtL T E g f' c j = g c j := fun c j q => by
    unfold cAtL
    rw [fu_nc q, fu_nc q]
  refine ⟨(hS.to hf).self, ⟨by rw [x _ _ (by decide)]; exact hL.1, fun i hi => ?_⟩, hY.x (fLX.a fLX.rf)⟩
  rw [x _ _ (by decide), x _ _ (by decide), x _ _ (by decide), x _ _ (by decide)]
  exact hL.2 i hi
theorem sp_lline (h : lwT T E g0 g f c ls) (hl : (c.length : Int) ≤ f) (h12 : ls.length < 12)
    (k1 : ∀ f1 c1 kd am g', pLL T E f c = Sum.inr (f1, c1, kd, am) → lwT T E g0 g' f1 c1 (ls ++ [[kd, am, (c.length : Int), (c1.length : Int)]]) → Q 1 (fI 1) g') (k2 : ∀ q g', pLL T E f c = Sum.inl q → g' 34 1 = q → fLY g0 g' → Q 1 (fI 0) g') : fx W r 23 102 0 [274, 7, 7] [] g Q := by
  have hs := h.1.1
  have ok := hs.2.2.2
  have ok1 := ok.1
  have ok2 := ok.2.1
  have hE := hs.1.2.2.1
  have okw := pOk_we ok
  have w0 := pSk_ge T E (pWe T E f)
  have ok3 := okw.2.1
  have kk : ∀ k : Int, pKind T E f = k → k ≠ -1 → f + 3 ≤ pWe T E f := fun k e n => (pKind_w (by omega)).1
  have num : ∀ k : Int, pKind T E f = k → k ≠ -1 → k ≠ 2 → pN T E 0 30 (pSk T E (pWe T E f)) → pLL T E f c = pIf T E (pSk T E (pDg T E (pSk T E (pWe T E f)))) c k (pNu T E (pSk T E (pWe T E f))) := fun k e n1 n2 t => by
    unfold pLL
    rw [cif_f (by omega), cif_f (by omega), cif_t t, e]
  have nof : ∀ k : Int, pKind T E f = k → k ≠ -1 → k ≠ 2 → ¬ pN T E 0 30 (pSk T E (pWe T E f)) → pLL T E f c = Sum.inl (pSk T E (pWe T E f)) := fun k e n1 n2 t => by
    unfold pLL
    rw [cif_f (by omega), cif_f (by omega), cif_f t]
  refine fx_la 0 1 (v := 274) (by decide +kernel) rfl (by decide +kernel) ?_
  refine fx_lds 125 3 (by decide +kernel) ?_
  refine fx_c2 78 21 6 5 [] (by decide +kernel) (by decide) (by decide) (by decide) rfl (by first | decide | omega) ?_
  refine sp_takesWordL [109, 111, 114, 101] (by decide +kernel) (by decide +kernel) hs (fun t1 => fK1 ?_) (fun t1 => fK1 ?_)
  · have eK : pKind T E f = 0 := cif_t t1
    refine fx_zeq 14 9 (by decide +kernel) (by unfold fR; omega) (fun hc => absurd hc (by decide)) (fun _ => ?_)
    refine fx_ci (0) 10 (by decide +kernel) ?_
    refine fx_si 1 11 (by decide +kernel) (Or.inr (f_n4p (v := 274) rfl (by decide))) rfl ?_
    dsimp only [List.set]
    refine fx_go 51 (by decide +kernel) ?_
    refine fx_li 1 52 (by decide +kernel) rfl ?_
    refine fx_ci (2) 53 (by decide +kernel) ?_
    refine fx_ine 60 56 (by decide +kernel) (by unfold fR; omega) (by unfold fR; omega) (fun _ => ?_) (fun hc => absurd hc (by decide))
    refine fx_la 0 61 (v := 274) (by decide +kernel) rfl (by decide +kernel) ?_
    refine fx_ci (0) 62 (by decide +kernel) ?_
    refine fx_ci (30) 64 (by decide +kernel) ?_
    refine fx_c3 93 21 67 1 [7, 7, 7] (by decide +kernel) (by decide) (by decide) (fI_n4 _) (fI_n4 _) rfl (by first | decide | omega) ?_
    have w1 := kk _ eK (by decide)
    have w2 := pDg_ge T E (pSk T E (pWe T E f))
    have w3 := pSk_ge T E (pDg T E (pSk T E (pWe T E f)))
    refine sp_takeNumberL (cSt_atL hs.1 okw) (by unfold fR; omega) (by unfold fR; omega) (fun t => fK1 ?_) (fun t vn hvn => fK1 ?_)
    have nb : 0 ≤ pNu T E (pSk T E (pWe T E f)) ∧ pNu T E (pSk T E (pWe T E f)) ≤ 30 := ⟨t.2.2.1, t.2.2.2⟩
    · refine fx_si 2 68 (by decide +kernel) (Or.inr (fI_n4 _)) rfl ?_
      dsimp only [List.set]
      refine fx_li 2 69 (by decide +kernel) rfl ?_
      refine fx_cn (-1) 70 (by decide +kernel) (fun v69 c69 => ?_)
      refine fx_ine 75 73 (by decide +kernel) (by unfold fR; omega) (by unfold fR; omega) (fun h70 => ?_) (fun h70 => ?_)
      · exact sp_lline_2 (lwT_to (lwT_to h okw) (pOk_dg okw)) (by omega) h12 (by unfold fR; omega) (by unfold fR; omega) (num _ eK (by decide) (by decide) t).symm (fun f1 c1 g' p1 p2 => k1 f1 c1 _ _ g' p1 p2) k2
      · refine fx_ci (0) 74 (by decide +kernel) ?_
        refine fx_retb (by decide +kernel) (by first | exact Or.inl rfl | exact Or.inr rfl | omega) ?_
        exfalso; omega
    · refine fx_si 2 68 (by decide +kernel) (Or.inr (fI_n4 _)) rfl ?_
      dsimp only [List.set]
      refine fx_li 2 69 (by decide +kernel) rfl ?_
      refine fx_cn (-1) 70 (by decide +kernel) (fun v69 c69 => ?_)
      refine fx_ine 75 73 (by decide +kernel) (by unfold fR; omega) (by unfold fR; omega) (fun h70 => ?_) (fun h70 => ?_)
      · exfalso; omega
      · refine fx_ci (0) 74 (by decide +kernel) ?_
        refine fx_retb (by decide +kernel) (by first | exact Or.inl rfl | exact Or.inr rfl | omega) ?_
        exact k2 _ _ (nof _ eK (by decide) (by decide) t) (fu_eq _ _ _ _) ((lwT_to h okw).2.2.x (fLX.w fLX.rf))
  · refine fx_zeq 14 9 (by decide +kernel) (by unfold fR; omega) (fun _ => ?_) (fun hc => absurd hc (by decide))
    refine fx_la 0 15 (v := 274) (by decide +kernel) rfl (by decide +kernel) ?_
    refine fx_lds 133 17 (by decide +kernel) ?_
    refine fx_c2 78 21 20 5 [] (by decide +kernel) (by decide) (by decide) (by decide) rfl (by first | decide | omega) ?_
    refine sp_takesWordL [108, 101, 115, 115] (by decide +kernel) (by decide +kernel) hs (fun t2 => fK1 ?_) (fun t2 => fK1 ?_)
    · have eK : pKind T E f = 1 := (cif_f t1).trans (cif_t t2)
      refine fx_zeq 28 23 (by decide +kernel) (by unfold fR; omega) (fun hc => absurd hc (by decide)) (fun _ => ?_)
      refine fx_ci (1) 24 (by decide +kernel) ?_
      refine fx_si 1 25 (by decide +kernel) (Or.inr (f_n4p (v := 274) rfl (by decide))) rfl ?_
      dsimp only [List.set]
      refine fx_go 51 (by decide +kernel) ?_
      refine fx_li 1 52 (by decide +kernel) rfl ?_
      refine fx_ci (2) 53 (by decide +kernel) ?_
      refine fx_ine 60 56 (by decide +kernel) (by unfold fR; omega) (by unfold fR; omega) (fun _ => ?_) (fun hc => absurd hc (by decide))
      refine fx_la 0 61 (v := 274) (by decide +kernel) rfl (by decide +kernel) ?_
      refine fx_ci (0) 62 (by decide +kernel) ?_
      refine fx_ci (30) 64 (by decide +kernel) ?_
      refine fx_c3 93 21 67 1 [7, 7, 7] (by decide +kernel) (by decide) (by decide) (fI_n4 _) (fI_n4 _) rfl (by first | decide | omega) ?_
      have w1 := kk _ eK (by decide)
      have w2 := pDg_ge T E (pSk T E (pWe T E f))
      have w3 := pSk_ge T E (pDg T E (pSk T E (pWe T E f)))
      refine sp_takeNumberL (cSt_atL hs.1 okw) (by unfold fR; omega) (by unfold fR; omega) (fun t => fK1 ?_) (fun t vn hvn => fK1 ?_)
      have nb : 0 ≤ pNu T E (pSk T E (pWe T E f)) ∧ pNu T E (pSk T E (pWe T E f)) ≤ 30 := ⟨t.2.2.1, t.2.2.2⟩
      · refine fx_si 2 68 (by decide +kernel) (Or.inr (fI_n4 _)) rfl ?_
        dsimp only [List.set]
        refine fx_li 2 69 (by decide +kernel) rfl ?_
        refine fx_cn (-1) 70 (by decide +kernel) (fun v69 c69 => ?_)
        refine fx_ine 75 73 (by decide +kernel) (by unfold fR; omega) (by unfold fR; omega) (fun h70 => ?_) (fun h70 => ?_)
        · exact sp_lline_2 (lwT_to (lwT_to h okw) (pOk_dg okw)) (by omega) h12 (by unfold fR; omega) (by unfold fR; omega) (num _ eK (by decide) (by decide) t).symm (fun f1 c1 g' p1 p2 => k1 f1 c1 _ _ g' p1 p2) k2
        · refine fx_ci (0) 74 (by decide +kernel) ?_
          refine fx_retb (by decide +kernel) (by first | exact Or.inl rfl | exact Or.inr rfl | omega) ?_
          exfalso; omega
      · refine fx_si 2 68 (by decide +kernel) (Or.inr (fI_n4 _)) rfl ?_
        dsimp only [List.set]
        refine fx_li 2 69 (by decide +kernel) rfl ?_
        refine fx_cn (-1) 70 (by decide +kernel) (fun v69 c69 => ?_)
        refine fx_ine 75 73 (by decide +kernel) (by unfold fR; omega) (by unfold fR; omega) (fun h70 => ?_) (fun h70 => ?_)
        · exfalso; omega
        · refine fx_ci (0) 74 (by decide +kernel) ?_
          refine fx_retb (by decide +kernel) (by first | exact Or.inl rfl | exact Or.inr rfl | omega) ?_
          exact k2 _ _ (nof _ eK (by decide) (by decide) t) (fu_eq _ _ _ _) ((lwT_to h okw).2.2.x (fLX.w fLX.rf))
    · refine fx_zeq 28 23 (by decide +kernel) (by unfold fR; omega) (fun _ => ?_) (fun hc => absurd hc (by decide))
      refine fx_la 0 29 (v := 274) (by decide +kernel) rfl (by decide +kernel) ?_
      refine fx_lds 141 31 (by decide +kernel) ?_
      refine fx_c2 78 21 34 5 [] (by decide +kernel) (by decide) (by decide) (by decide) rfl (by first | decide | omega) ?_
      refine sp_takesWordL [111, 102, 102] (by decide +kernel) (by decide +kernel) hs (fun t3 => fK1 ?_) (fun t3 => fK1 ?_)
      · have eK : pKind T E f = 2 := (cif_f t1).trans ((cif_f t2).trans (cif_t t3))
        refine fx_zeq 42 37 (by decide +kernel) (by unfold fR; omega) (fun hc => absurd hc (by decide)) (fun _ => ?_)
        refine fx_ci (2) 38 (by decide +kernel) ?_
        refine fx_si 1 39 (by decide +kernel) (Or.inr (f_n4p (v := 274) rfl (by decide))) rfl ?_
        dsimp only [List.set]
        refine fx_go 51 (by decide +kernel) ?_
        refine fx_li 1 52 (by decide +kernel) rfl ?_
        refine fx_ci (2) 53 (by decide +kernel) ?_
        refine fx_ine 60 56 (by decide +kernel) (by unfold fR; omega) (by unfold fR; omega) (fun hc => absurd hc (by decide)) (fun _ => ?_)
        refine fx_ci (0) 57 (by decide +kernel) ?_
        refine fx_go 67 (by decide +kernel) ?_
        refine fx_si 2 68 (by decide +kernel) (Or.inr (fI_n4 _)) rfl ?_
        dsimp only [List.set]
        refine fx_li 2 69 (by decide +kernel) rfl ?_
        refine fx_cn (-1) 70 (by decide +kernel) (fun v69 c69 => ?_)
        refine fx_ine 75 73 (by decide +kernel) (by unfold fR; omega) (by unfold fR; omega) (fun h70 => ?_) (fun h70 => ?_)
        · have w1 := kk _ eK (by decide)
          exact sp_lline_2 (lwT_to h okw) (by omega) h12 (by unfold fR; omega) (by unfold fR; omega) (show pIf T E (pSk T E (pWe T E f)) c 2 0 = pLL T E f c by unfold pLL; rw [cif_f (by omega), cif_t eK]) (fun f1 c1 g' p1 p2 => k1 f1 c1 _ _ g' p1 p2) k2
        · refine fx_ci (0) 74 (by decide +kernel) ?_
          refine fx_retb (by decide +kernel) (by first | exact Or.inl rfl | exact Or.inr rfl | omega) ?_
          exfalso; omega
      · refine fx_zeq 42 37 (by decide +kernel) (by unfold fR; omega) (fun _ => ?_) (fun hc => absurd hc (by decide))
        refine fx_la 0 43 (v := 274) (by decide +kernel) rfl (by decide +kernel) ?_
        refine fx_la 0 44 (v := 274) (by decide +kernel) rfl (by decide +kernel) ?_
        refine fx_gi 274 34 2 47 (by decide +kernel) ?_
        try simp only [fu_app, fcy_app, Nat.reduceEqDiff, and_true, and_false, false_and, true_and, if_true, if_false, ite_true, ite_false, reduceIte, Int.reduceToNat, fx_simp0]
        rw [show g 34 2 = f from hs.2.1]
        refine fx_c2 92 21 50 0 [] (by decide +kernel) (by decide) (by decide) (fI_n4 _) rfl (by first | decide | omega) ?_
        refine sp_wrongAtL (by unfold fR; omega) (fK1 ?_)
        refine fx_retb (by decide +kernel) (by first | exact Or.inl rfl | exact Or.inr rfl | omega) ?_
        exact k2 f _ (by unfold pLL pKind; rw [cif_t (by rw [cif_f t1, cif_f t2, cif_f t3])]) (fu_eq _ _ _ _) (h.2.2.x (fLX.w fLX.rf))
end G5E
end
section
/-! fx: the class reads the law: the text -/
section G5F
variable {W : ax_W} {r : Nat} {g g0 : Nat → Nat → Int} {Q : Nat → Nat → (Nat → Nat → Int) → Prop} {T : Int → Int} {E f : Int} {c : List Int} {ls : List (List Int)}
theorem sp_lrls (k1 : ∀ c1 l1 R', R' = (Sum.inr (c1, l1) : Int ⊕ (List Int × List (List Int))) → ∀ f1 g', lwT T E g0 g' f1 c1 l1 → (c1.length : Int) ≤ E → l1.length ≤ 12 → pLs T E 12 (pSk T E 0) [] [] = R' → Q 1 (fI 1) g') (k2 : ∀ q g', pLs T E 12 (pSk T E 0) [] [] = Sum.inl q → g' 34 1 = q → fLY g0 g' → Q 1 (fI 0) g') : ∀ (left n : Nat) (f : Int) (c : List Int) (ls : List (List Int)) (g : Nat → Nat → Int), n + left = 12 → ls.length = n → lwT T E g0 g f c ls → (c.length : Int) ≤ f → pLs T E left f c ls = pLs T E 12 (pSk T E 0) [] [] → fx W r 24 75 11 [274, fI 12, fI (n : Int)] [] g Q
  | left, n, f, c, ls, g, hn, hls, h, hl, eR => by
    have hs := h.1.1
    have ok := hs.2.2.2
    have ok1 := ok.1
    have ok2 := ok.2.1
    have hE := hs.1.2.2.1
    refine fx_li 2 12 (by decide +kernel) rfl ?_
    refine fx_li 1 13 (by decide +kernel) rfl ?_
    refine fx_ige 58 16 (by decide +kernel) (by unfold fR; omega) (by unfold fR; omega) (fun h13 => ?_) (fun h13 => ?_)
    · refine fx_la 0 59 (v := 274) (by decide +kernel) rfl (by decide +kernel) ?_
      refine fx_la 0 60 (v := 274) (by decide +kernel) rfl (by decide +kernel) ?_
      refine fx_gi 274 34 2 63 (by decide +kernel) ?_
      rw [show g 34 2 = f from hs.2.1]
      refine fx_c2 92 21 66 0 [] (by decide +kernel) (by decide) (by decide) (fI_n4 _) rfl (by first | decide | omega) ?_
      refine sp_wrongAtL (by unfold fR; omega) (fK1 ?_)
      refine fx_retb (by decide +kernel) (by first | exact Or.inl rfl | exact Or.inr rfl | omega) ?_
      have e : left = 0 := by omega
      subst e
      exact k2 f _ eR.symm (fu_eq _ _ _ _) (h.2.2.x (fLX.w fLX.rf))
    · refine fx_la 0 17 (v := 274) (by decide +kernel) rfl (by decide +kernel) ?_
      refine fx_c1 102 40 20 23 [7, 7] (by decide +kernel) (by decide) rfl (by first | decide | omega) ?_
      have e : ∃ l, left = l + 1 := ⟨left - 1, by omega⟩
      obtain ⟨l, rfl⟩ := e
      refine sp_lline h hl (by omega) (fun f1 c1 kd am g1 p1 h1 => fK1 ?_) (fun q g1 p1 p2 p3 => fK1 ?_)
      obtain ⟨o1, o2, o3, -⟩ := pLL_ok p1 ok hl
      have o4 := o1.2.1
      have eR1 : (if f1 = E then Sum.inr (c1, ls ++ [[kd, am, (c.length : Int), (c1.length : Int)]]) else if T f1 = 59 then pLs T E l (pSk T E (f1 + 1)) c1 (ls ++ [[kd, am, (c.length : Int), (c1.length : Int)]]) else Sum.inl f1) = pLs T E 12 (pSk T E 0) [] [] := by
        rw [← eR]
        show _ = bS (pLL T E f c) _
        rw [p1, bS_r]
      have ll : (ls ++ [[kd, am, (c.length : Int), (c1.length : Int)]]).length = n + 1 := by rw [List.length_append, hls]; rfl
      · refine fx_zne 25 23 (by decide +kernel) (by unfold fR; omega) (fun _ => ?_) (fun hc => absurd hc (by decide))
        refine fx_la 0 26 (v := 274) (by decide +kernel) rfl (by decide +kernel) ?_
        refine fx_c1 76 21 29 0 [] (by decide +kernel) (by decide) rfl (by first | decide | omega) ?_
        refine sp_isOverL h1.1.1 (fun b => fK1 ?_) (fun b => fK1 ?_)
        · refine fx_zeq 34 32 (by decide +kernel) (by unfold fR; omega) (fun hc => absurd hc (by decide)) (fun _ => ?_)
          refine fx_ci (1) 33 (by decide +kernel) ?_
          refine fx_retb (by decide +kernel) (by first | exact Or.inl rfl | exact Or.inr rfl | omega) ?_
          rw [if_pos b] at eR1
          exact k1 c1 _ _ rfl f1 g1 h1 (by omega) (by omega) eR1.symm
        · refine fx_zeq 34 32 (by decide +kernel) (by unfold fR; omega) (fun _ => ?_) (fun hc => absurd hc (by decide))
          refine fx_la 0 35 (v := 274) (by decide +kernel) rfl (by decide +kernel) ?_
          refine fx_ci (59) 37 (by decide +kernel) ?_
          refine fx_c2 106 21 40 1 [] (by decide +kernel) (by decide) (by decide) (fI_n4 _) rfl (by first | decide | omega) ?_
          refine sp_takesSignL h1.1.1 (by unfold fR; omega) (by omega) (by omega) (fun b2 => fK1 ?_) (fun b2 => fK1 ?_)
          · refine fx_zne 52 43 (by decide +kernel) (by unfold fR; omega) (fun _ => ?_) (fun hc => absurd hc (by decide))
            refine fx_inc 2 55 (1) (by decide +kernel) rfl (Or.inr (fI_n4 _)) rfl ?_
            dsimp only [List.set]
            refine fx_go 11 (by decide +kernel) ?_
            rw [if_neg (by omega), if_pos b2.2] at eR1
            have g0' := pSk_ge T E (f1 + 1)
            have ok5 := pOk_s1 o1 b2
            exact sp_lrls k1 k2 l (n + 1) (pSk T E (f1 + 1)) c1 _ _ (by omega) ll (lwT_to h1 ok5) (by omega) eR1
          · refine fx_zne 52 43 (by decide +kernel) (by unfold fR; omega) (fun hc => absurd hc (by decide)) (fun _ => ?_)
            refine fx_la 0 44 (v := 274) (by decide +kernel) rfl (by decide +kernel) ?_
            refine fx_la 0 45 (v := 274) (by decide +kernel) rfl (by decide +kernel) ?_
            refine fx_gi 274 34 2 48 (by decide +kernel) ?_
            try simp only [fu_app, fcy_app, Nat.reduceEqDiff, and_true, and_false, false_and, true_and, if_true, if_false, ite_true, ite_false, reduceIte, Int.reduceToNat, fx_simp0]
            rw [show g1 34 2 = f1 from h1.1.1.2.1]
            refine fx_c2 92 21 51 0 [] (by decide +kernel) (by decide) (by decide) (fI_n4 _) rfl (by first | decide | omega) ?_
            refine sp_wrongAtL (by unfold fR; omega) (fK1 ?_)
            refine fx_retb (by decide +kernel) (by first | exact Or.inl rfl | exact Or.inr rfl | omega) ?_
            rw [if_neg (by omega), if_neg (fun t => b2 ⟨b, t⟩)] at eR1
            exact k2 f1 _ eR1.symm (fu_eq _ _ _ _) (h1.2.2.x (fLX.w fLX.rf))
      · refine fx_zne 25 23 (by decide +kernel) (by unfold fR; omega) (fun hc => absurd hc (by decide)) (fun _ => ?_)
        refine fx_ci (0) 24 (by decide +kernel) ?_
        refine fx_retb (by decide +kernel) (by first | exact Or.inl rfl | exact Or.inr rfl | omega) ?_
        exact k2 q g1 (by rw [← eR]; show bS (pLL T E f c) _ = _; rw [p1, bS_l]) p2 p3
theorem sp_lreadLines (h : lwT T E g0 g (pSk T E 0) [] []) (hp : pSk T E 0 ≤ E) (k1 : ∀ c1 l1, pLaw T E = Sum.inr (c1, l1) → ∀ f1 g', lwT T E g0 g' f1 c1 l1 → (c1.length : Int) ≤ E → l1.length ≤ 12 → Q 1 (fI 1) g') (k2 : ∀ q, pLaw T E = Sum.inl q → ∀ g', g' 34 1 = q → fLY g0 g' → Q 1 (fI 0) g') : fx W r 24 75 0 [274, fI 12, 7] [] g Q := by
  have hE := h.1.1.1.2.1
  unfold pLaw at k1 k2
  refine fx_la 0 1 (v := 274) (by decide +kernel) rfl (by decide +kernel) ?_
  refine fx_c1 76 21 4 0 [] (by decide +kernel) (by decide) rfl (by first | decide | omega) ?_
  refine sp_isOverL h.1.1 (fun b => fK1 ?_) (fun b => fK1 ?_)
  · refine fx_zeq 9 7 (by decide +kernel) (by unfold fR; omega) (fun hc => absurd hc (by decide)) (fun _ => ?_)
    refine fx_ci (1) 8 (by decide +kernel) ?_
    refine fx_retb (by decide +kernel) (by first | exact Or.inl rfl | exact Or.inr rfl | omega) ?_
    rw [if_pos b] at k1
    exact k1 [] [] rfl _ g h (by show (0 : Int) ≤ E; exact hE) (by decide)
  · refine fx_zeq 9 7 (by decide +kernel) (by unfold fR; omega) (fun _ => ?_) (fun hc => absurd hc (by decide))
    refine fx_ci (0) 10 (by decide +kernel) ?_
    refine fx_si 2 11 (by decide +kernel) (Or.inr (fI_n4 _)) rfl ?_
    dsimp only [List.set]
    rw [if_neg (by omega)] at k1 k2
    exact sp_lrls (fun c1 l1 R' p1 f1 g' p2 p3 p4 p5 => k1 c1 l1 (p5.trans p1) f1 g' p2 p3 p4) (fun q g' p1 p2 p3 => k2 q p1 g' p2 p3) 12 0 (pSk T E 0) [] [] g rfl rfl h (by have := pSk_ge T E 0; show (0 : Int) ≤ _; exact this) rfl
/-- the tape is used up, the text begins -/
def fUseL (T : Int → Int) (E : Int) (g : Nat → Nat → Int) : Nat → Nat → Int := cAtL T E (fu (fu (fu (fu g 1 1 0) 34 4 (g 1 1)) 34 1 (-1)) 34 3 0) (pSk T E 0)
theorem sp_useTapeL (hT : ∀ k : Int, 0 ≤ k → k < 400 → g 2 k.toNat = T k ∧ 0 ≤ T k ∧ T k ≤ 255) (hE : g 1 1 = E) (hE0 : 0 ≤ E) (hE1 : E ≤ 400) (kq : Q 0 0 (fUseL T E g)) : fx W r 1 72 0 [274] [] g Q := by
  refine fx_la 0 1 (v := 274) (by decide +kernel) rfl (by decide +kernel) ?_
  refine fx_la 0 2 (v := 274) (by decide +kernel) rfl (by decide +kernel) ?_
  refine fx_gp 274 34 0 10 5 (by decide +kernel) ?_
  refine fx_c1 73 21 8 0 [7] (by decide +kernel) (by decide) rfl (by first | decide | omega) ?_
  refine sp_useUp (fK1 ?_)
  refine fx_pi 274 34 4 11 (by decide +kernel) (by unfold fR; omega) ?_
  refine fx_la 0 12 (v := 274) (by decide +kernel) rfl (by decide +kernel) ?_
  refine fx_ci (-1) 13 (by decide +kernel) ?_
  refine fx_pi 274 34 1 16 (by decide +kernel) (by unfold fR; omega) ?_
  refine fx_la 0 17 (v := 274) (by decide +kernel) rfl (by decide +kernel) ?_
  refine fx_ci (0) 18 (by decide +kernel) ?_
  refine fx_pi 274 34 3 21 (by decide +kernel) (by unfold fR; omega) ?_
  refine fx_la 0 22 (v := 274) (by decide +kernel) rfl (by decide +kernel) ?_
  refine fx_c1 74 21 25 0 [7] (by decide +kernel) (by decide) rfl (by first | decide | omega) ?_
  refine sp_advanceL (T := T) (E := E) ⟨?_, hE0, hE1, fun k h0 h1 => ?_⟩ (by rw [fu_eq]; omega) (by rw [fu_eq]; exact hE0) (fK0 ?_)
  · rw [fu_nj (by decide), fu_nj (by decide), fu_eq]; exact hE
  · rw [fu_nc (by decide), fu_nc (by decide), fu_nc (by decide), fu_nc (by decide)]
    exact hT k h0 h1
  rw [fu_eq]
  refine fx_vret (by decide +kernel) ?_
  exact kq
theorem fUse_stL (hT : ∀ k : Int, 0 ≤ k → k < 400 → g 2 k.toNat = T k ∧ 0 ≤ T k ∧ T k ≤ 255) (hE : g 1 1 = E) (hE0 : 0 ≤ E) (hE1 : E ≤ 400) : cStL T E (fUseL T E g) (pSk T E 0) := by
  refine cSt_atL ⟨?_, hE0, hE1, fun k h0 h1 => ?_⟩ (pOk_sk (Int.le_refl 0) hE0)
  · rw [fu_nj (by decide), fu_nj (by decide), fu_eq]; exact hE
  · rw [fu_nc (by decide), fu_nc (by decide), fu_nc (by decide), fu_nc (by decide)]
    exact hT k h0 h1
theorem fUse_neL {c j : Nat} (h1 : c ≠ 34) (h2 : ¬ (c = 1 ∧ j = 1)) : fUseL T E g c j = g c j := by
  unfold fUseL cAtL
  rw [fu_nc h1, fu_nc h1, fu_nc h1, fu_nc h1, fu_nc h1, fu_ne h2]
theorem fUse_wL : fUseL T E g 34 1 = -1 := by
  unfold fUseL cAtL
  rw [fu_nj (by decide), fu_nj (by decide), fu_nj (by decide), fu_eq]
theorem fUse_lL : fUseL T E g 1 1 = 0 := by
  unfold fUseL cAtL
  rw [fu_nc (by decide), fu_nc (by decide), fu_nc (by decide), fu_nc (by decide), fu_nc (by decide), fu_eq]

def fSA (T : Int → Int) (E : Int) (g : Nat → Nat → Int) : Nat → Nat → Int := fu (fu (fUseL T E g) 35 7 0) 35 8 0
theorem sp_lclear (kq : Q 0 0 (fu (fu g 35 7 0) 35 8 0)) : fx W r 0 120 0 [282] [] g Q := by
  refine fx_la 0 1 (v := 282) (by decide +kernel) rfl (by decide +kernel) ?_
  refine fx_ci (0) 2 (by decide +kernel) ?_
  refine fx_pi 282 35 7 5 (by decide +kernel) (by unfold fR; omega) ?_
  refine fx_la 0 6 (v := 282) (by decide +kernel) rfl (by decide +kernel) ?_
  refine fx_ci (0) 7 (by decide +kernel) ?_
  refine fx_pi 282 35 8 10 (by decide +kernel) (by unfold fR; omega) ?_
  refine fx_vret (by decide +kernel) ?_
  exact kq
theorem sp_startAnew (hT : ∀ k : Int, 0 ≤ k → k < 400 → g 2 k.toNat = T k ∧ 0 ≤ T k ∧ T k ≤ 255) (hE : g 1 1 = E) (hE0 : 0 ≤ E) (hE1 : E ≤ 400) (kq : Q 0 0 (fSA T E g)) : fx W r 2 119 0 [274] [] g Q := by
  refine fx_la 0 1 (v := 274) (by decide +kernel) rfl (by decide +kernel) ?_
  refine fx_c1 72 21 4 1 [] (by decide +kernel) (by decide) rfl (by first | decide | omega) ?_
  refine sp_useTapeL hT hE hE0 hE1 (fK0 ?_)
  refine fx_la 0 5 (v := 274) (by decide +kernel) rfl (by decide +kernel) ?_
  refine fx_gp 274 34 5 282 8 (by decide +kernel) ?_
  refine fx_c1 120 21 11 0 [] (by decide +kernel) (by decide) rfl (by first | decide | omega) ?_
  refine sp_lclear (fK0 ?_)
  refine fx_vret (by decide +kernel) ?_
  exact kq
theorem fSA_x {c j : Nat} (h1 : c ≠ 34) (h2 : ¬ (c = 1 ∧ j = 1)) (h3 : c ≠ 35) : fSA T E g c j = g c j := by
  unfold fSA
  rw [fu_nc h3, fu_nc h3, fUse_neL h1 h2]
theorem fSA_T (hT : ∀ k : Int, 0 ≤ k → k < 400 → g 2 k.toNat = T k ∧ 0 ≤ T k ∧ T k ≤ 255) (hE : g 1 1 = E) (hE0 : 0 ≤ E) (hE1 : E ≤ 400) : lwT T E (fSA T E g) (fSA T E g) (pSk T E 0) [] [] := by
  obtain ⟨a1, a2, a3, a4⟩ := fUse_stL (g := g) hT hE hE0 hE1
  have x : ∀ c j, c ≠ 35 → fSA T E g c j = fUseL T E g c j := fun c j h => by
    unfold fSA
    rw [fu_nc h, fu_nc h]
  refine ⟨⟨⟨CT_eqL a1 (x _ _ (by decide)) (fun j => x _ _ (by decide)), ?_, ?_, a4⟩, ?_, fun j hj => absurd hj (Nat.not_lt_zero _), fLX.rf⟩, ⟨?_, fun i hi => absurd hi (Nat.not_lt_zero _)⟩, fLY.rf⟩
  · rw [x _ _ (by decide)]; exact a2
  · rw [x _ _ (by decide)]; exact a3
  · unfold fSA; rw [fu_eq]; rfl
  · unfold fSA; rw [fu_nj (by decide), fu_eq]; rfl
/-- what the law's text changes, where it is wrong, and where it is right -/
def frlW (g g' : Nat → Nat → Int) : Prop := ∀ c j, ¬ (34 ≤ c ∧ c ≤ 40) → ¬ (c = 1 ∧ j = 1) → ¬ (c = 0 ∧ j = 18) → g' c j = g c j
def frlR (g g' : Nat → Nat → Int) : Prop := ∀ c j, ¬ (8 ≤ c ∧ c ≤ 13) → ¬ (34 ≤ c ∧ c ≤ 40) → ¬ (c = 1 ∧ j = 1) → ¬ (c = 0 ∧ (j = 18 ∨ j = 16)) → g' c j = g c j
theorem frl_Y {g' : Nat → Nat → Int} (h : fLY (fSA T E g) g') {c j : Nat} (h1 : ¬ (34 ≤ c ∧ c ≤ 40)) (h2 : ¬ (c = 1 ∧ j = 1)) : g' c j = g c j := by
  rw [h c j (by omega) (by omega) (by omega), fSA_x (by omega) h2 (by omega)]
def cpLw (g : Nat → Nat → Int) (a b : Nat) : Nat → Nat → Int := fu (fu (fcy (fcy (fcy (fcy (fcy g (a + 1) (b + 1)) (a + 2) (b + 2)) (a + 3) (b + 3)) (a + 4) (b + 4)) (a + 5) (b + 5)) b 7 (g a 7)) b 8 (g a 8)
theorem sp_cpL (kq : Q 0 0 (cpLw g 35 8)) : fx W r 0 66 0 [66, 282] [] g Q := by
  refine fx_rg (fun hg => ?_)
  have v7 := hg 35 7 (by decide) (by decide +kernel) (by decide +kernel)
  have v8 := hg 35 8 (by decide) (by decide +kernel) (by decide +kernel)
  unfold fR at v7 v8
  refine fx_la 1 1 (v := 282) (by decide +kernel) rfl (by decide +kernel) ?_
  refine fx_gp 282 35 0 290 4 (by decide +kernel) ?_
  refine fx_ci (0) 5 (by decide +kernel) ?_
  refine fx_la 0 6 (v := 66) (by decide +kernel) rfl (by decide +kernel) ?_
  refine fx_gp 66 8 0 74 9 (by decide +kernel) ?_
  refine fx_ci (0) 10 (by decide +kernel) ?_
  refine fx_ci (12) 12 (by decide +kernel) ?_
  refine fx_cpy 290 36 74 9 12 15 (by decide +kernel) rfl ?_
  refine fx_la 1 16 (v := 282) (by decide +kernel) rfl (by decide +kernel) ?_
  refine fx_gp 282 35 1 298 19 (by decide +kernel) ?_
  refine fx_ci (0) 20 (by decide +kernel) ?_
  refine fx_la 0 21 (v := 66) (by decide +kernel) rfl (by decide +kernel) ?_
  refine fx_gp 66 8 1 82 24 (by decide +kernel) ?_
  refine fx_ci (0) 25 (by decide +kernel) ?_
  refine fx_ci (12) 27 (by decide +kernel) ?_
  refine fx_cpy 298 37 82 10 12 30 (by decide +kernel) rfl ?_
  refine fx_la 1 31 (v := 282) (by decide +kernel) rfl (by decide +kernel) ?_
  refine fx_gp 282 35 2 306 34 (by decide +kernel) ?_
  refine fx_ci (0) 35 (by decide +kernel) ?_
  refine fx_la 0 36 (v := 66) (by decide +kernel) rfl (by decide +kernel) ?_
  refine fx_gp 66 8 2 90 39 (by decide +kernel) ?_
  refine fx_ci (0) 40 (by decide +kernel) ?_
  refine fx_ci (12) 42 (by decide +kernel) ?_
  refine fx_cpy 306 38 90 11 12 45 (by decide +kernel) rfl ?_
  refine fx_la 1 46 (v := 282) (by decide +kernel) rfl (by decide +kernel) ?_
  refine fx_gp 282 35 3 314 49 (by decide +kernel) ?_
  refine fx_ci (0) 50 (by decide +kernel) ?_
  refine fx_la 0 51 (v := 66) (by decide +kernel) rfl (by decide +kernel) ?_
  refine fx_gp 66 8 3 98 54 (by decide +kernel) ?_
  refine fx_ci (0) 55 (by decide +kernel) ?_
  refine fx_ci (12) 57 (by decide +kernel) ?_
  refine fx_cpy 314 39 98 12 12 60 (by decide +kernel) rfl ?_
  refine fx_la 1 61 (v := 282) (by decide +kernel) rfl (by decide +kernel) ?_
  refine fx_gp 282 35 4 322 64 (by decide +kernel) ?_
  refine fx_ci (0) 65 (by decide +kernel) ?_
  refine fx_la 0 66 (v := 66) (by decide +kernel) rfl (by decide +kernel) ?_
  refine fx_gp 66 8 4 106 69 (by decide +kernel) ?_
  refine fx_ci (0) 70 (by decide +kernel) ?_
  refine fx_ci (400) 73 (by decide +kernel) ?_
  refine fx_cpy 322 40 106 13 400 76 (by decide +kernel) rfl ?_
  refine fx_la 0 77 (v := 66) (by decide +kernel) rfl (by decide +kernel) ?_
  refine fx_la 1 78 (v := 282) (by decide +kernel) rfl (by decide +kernel) ?_
  refine fx_gi 282 35 7 81 (by decide +kernel) ?_
  try simp only [fu_app, fcy_app, Nat.reduceEqDiff, and_true, and_false, false_and, true_and, if_true, if_false, ite_true, ite_false, reduceIte, Int.reduceToNat, fx_simp0]
  refine fx_pi 66 8 7 84 (by decide +kernel) (by unfold fR; omega) ?_
  refine fx_la 0 85 (v := 66) (by decide +kernel) rfl (by decide +kernel) ?_
  refine fx_la 1 86 (v := 282) (by decide +kernel) rfl (by decide +kernel) ?_
  refine fx_gi 282 35 8 89 (by decide +kernel) ?_
  try simp only [fu_app, fcy_app, Nat.reduceEqDiff, and_true, and_false, false_and, true_and, if_true, if_false, ite_true, ite_false, reduceIte, Int.reduceToNat, fx_simp0]
  refine fx_pi 66 8 8 92 (by decide +kernel) (by unfold fR; omega) ?_
  refine fx_vret (by decide +kernel) ?_
  exact kq
theorem sp_claw (hr : 1 ≤ r) (hT : ∀ k : Int, 0 ≤ k → k < 400 → g 2 k.toNat = T k ∧ 0 ≤ T k ∧ T k ≤ 255) (hE : g 1 1 = E) (hE0 : 0 ≤ E) (hE1 : E ≤ 400)
    (k1 : ∀ q, pLaw T E = Sum.inl q → ∀ g', frlW g g' → g' 1 1 = 0 → g' 0 18 = q → Q 2 0 g')
    (k2 : ∀ c1 l1, pLaw T E = Sum.inr (c1, l1) → ∀ g1 f1 g', lwT T E (fSA T E g) g1 f1 c1 l1 → (c1.length : Int) ≤ E → l1.length ≤ 12 → frlR g g' → g' 1 1 = 0 → g' 0 16 = 0 → g' = fu (cpLw (fu g1 0 18 (g1 34 1)) 35 8) 0 16 0 → Q 1 (fI (l1.length : Int)) g') : fx W r 25 118 0 [2, 7] [] g Q := by
  refine fx_la 0 1 (v := 2) (by decide +kernel) rfl (by decide +kernel) ?_
  refine fx_gp 2 0 6 274 4 (by decide +kernel) ?_
  refine fx_c1 119 21 7 2 [] (by decide +kernel) (by decide) rfl (by first | decide | omega) ?_
  refine sp_startAnew hT hE hE0 hE1 (fK0 ?_)
  refine fx_la 0 8 (v := 2) (by decide +kernel) rfl (by decide +kernel) ?_
  refine fx_gp 2 0 6 274 11 (by decide +kernel) ?_
  refine fx_ci (12) 13 (by decide +kernel) ?_
  refine fx_c2 75 21 16 24 [7] (by decide +kernel) (by decide) (by decide) (fI_n4 _) rfl (by first | decide | omega) ?_
  have hp := pSk_le (T := T) hE0
  refine sp_lreadLines (fSA_T hT hE hE0 hE1) hp (fun c1 l1 p1 f1 g1 p2 p3 p4 => fK1 ?_) (fun q p1 g1 p2 p3 => fK1 ?_)
  · refine fx_si 1 17 (by decide +kernel) (Or.inr (f_n4p (v := 2) rfl (by decide))) rfl ?_
    dsimp only [List.set]
    refine fx_la 0 18 (v := 2) (by decide +kernel) rfl (by decide +kernel) ?_
    refine fx_la 0 19 (v := 2) (by decide +kernel) rfl (by decide +kernel) ?_
    refine fx_gp 2 0 6 274 22 (by decide +kernel) ?_
    refine fx_gi 274 34 1 25 (by decide +kernel) ?_
    try simp only [fu_app, fcy_app, Nat.reduceEqDiff, and_true, and_false, false_and, true_and, if_true, if_false, ite_true, ite_false, reduceIte, Int.reduceToNat, fx_simp0]
    refine fx_rg (fun hg => ?_)
    have rwr := hg 34 1 (by decide) (by decide +kernel) (by decide +kernel)
    unfold fR at rwr
    refine fx_pi 2 0 18 28 (by decide +kernel) (by unfold fR; omega) ?_
    refine fx_li 1 29 (by decide +kernel) rfl ?_
    refine fx_zne 42 32 (by decide +kernel) (by unfold fR; omega) (fun _ => ?_) (fun hc => absurd hc (by decide))
    refine fx_la 0 43 (v := 2) (by decide +kernel) rfl (by decide +kernel) ?_
    refine fx_gp 2 0 2 66 46 (by decide +kernel) ?_
    refine fx_la 0 47 (v := 2) (by decide +kernel) rfl (by decide +kernel) ?_
    refine fx_gp 2 0 6 274 50 (by decide +kernel) ?_
    refine fx_gp 274 34 5 282 53 (by decide +kernel) ?_
    refine fx_c2 66 21 56 0 [] (by decide +kernel) (by decide) (by decide) (by decide) rfl (by first | decide | omega) ?_
    refine sp_cpL (fK0 ?_)
    refine fx_la 0 57 (v := 2) (by decide +kernel) rfl (by decide +kernel) ?_
    refine fx_ci (0) 58 (by decide +kernel) ?_
    refine fx_pi 2 0 16 61 (by decide +kernel) (by unfold fR; omega) ?_
    refine fx_la 0 62 (v := 2) (by decide +kernel) rfl (by decide +kernel) ?_
    refine fx_gp 2 0 2 66 65 (by decide +kernel) ?_
    refine fx_gi 66 8 7 68 (by decide +kernel) ?_
    try simp only [fu_app, fcy_app, Nat.reduceEqDiff, and_true, and_false, false_and, true_and, if_true, if_false, ite_true, ite_false, reduceIte, Int.reduceToNat, fx_simp0]
    refine fx_ret (by decide +kernel) ?_
    have tl : g1 1 1 = 0 := by
      rw [p2.2.2 _ _ (by decide) (by decide) (by decide)]
      unfold fSA
      rw [fu_nc (by decide), fu_nc (by decide), fUse_lL]
    have lv : (fu (cpLw (fu g1 0 18 (g1 34 1)) 35 8) 0 16 0) 8 7 = (l1.length : Int) := by
      rw [fu_nc (by decide)]
      unfold cpLw
      rw [fu_nj (by decide), fu_eq, fu_nc (by decide)]
      exact p2.2.1.1
    have cpx : ∀ c j (g : Nat → Nat → Int), ¬ (8 ≤ c ∧ c ≤ 13) → cpLw g 35 8 c j = g c j := fun c j g h => by
      unfold cpLw
      rw [fu_nc (by omega), fu_nc (by omega), fcy_app, if_neg (by omega), fcy_app, if_neg (by omega), fcy_app, if_neg (by omega), fcy_app, if_neg (by omega), fcy_app, if_neg (by omega)]
    have kk := k2 c1 l1 p1 g1 f1 _ p2 p3 p4 (fun c j a b d e => by rw [fu_ne (fun t => e ⟨t.1, Or.inr t.2⟩), cpx _ _ _ a, fu_ne (fun t => e ⟨t.1, Or.inl t.2⟩)]; exact frl_Y p2.2.2 b d) (by rw [fu_nc (by decide), cpx _ _ _ (by decide), fu_nc (by decide)]; exact tl) (fu_eq _ _ _ _) rfl
    rw [← lv] at kk
    exact kk
  · refine fx_si 1 17 (by decide +kernel) (Or.inr (f_n4p (v := 2) rfl (by decide))) rfl ?_
    dsimp only [List.set]
    refine fx_la 0 18 (v := 2) (by decide +kernel) rfl (by decide +kernel) ?_
    refine fx_la 0 19 (v := 2) (by decide +kernel) rfl (by decide +kernel) ?_
    refine fx_gp 2 0 6 274 22 (by decide +kernel) ?_
    refine fx_gi 274 34 1 25 (by decide +kernel) ?_
    try simp only [fu_app, fcy_app, Nat.reduceEqDiff, and_true, and_false, false_and, true_and, if_true, if_false, ite_true, ite_false, reduceIte, Int.reduceToNat, fx_simp0]
    refine fx_rg (fun hg => ?_)
    have rwr := hg 34 1 (by decide) (by decide +kernel) (by decide +kernel)
    unfold fR at rwr
    refine fx_pi 2 0 18 28 (by decide +kernel) (by unfold fR; omega) ?_
    refine fx_li 1 29 (by decide +kernel) rfl ?_
    refine fx_zne 42 32 (by decide +kernel) (by unfold fR; omega) (fun hc => absurd hc (by decide)) (fun _ => ?_)
    refine fx_throw 0 (by decide +kernel) rfl (by omega) ?_
    have tl : g1 1 1 = 0 := by
      rw [p3 _ _ (by decide) (by decide) (by decide)]
      unfold fSA
      rw [fu_nc (by decide), fu_nc (by decide), fUse_lL]
    refine k1 q p1 _ (fun c j a b d => ?_) ?_ ?_
    · rw [fu_ne d]
      exact frl_Y p3 a b
    · rw [fu_nc (by decide)]; exact tl
    · rw [fu_eq]; exact p2
end G5F
end
