/-! fx: words, signs, numbers as the reference reads them -/
section FXI
variable {W : ax_W} {r : Nat} {g : Nat → Nat → Int} {Q : Nat → Nat → (Nat → Nat → Int) → Prop} {T : Int → Int} {E : Int} {s : Nat}
theorem RT_t {k : Int} (h : RT T E g) (h0 : 0 ≤ k) (h1 : k < E) : 0 ≤ T k ∧ T k ≤ 255 := (h.2.2.2.2 k h0 (by have := h.2.2.1; omega)).2
theorem sp_has_1 : ∀ (n : Nat) (k : Int), RT T E g → f_sk s → 0 ≤ k → k ≤ 410 → (E - k).toNat = n → fx W r 4 275 38 [1186, s, fI (spn (isLe T) n k), 7] [] g Q → fx W r 4 275 9 [1186, s, fI k, 7] [] g Q
  | n, k, h, hs, h0, h4, hn, kq => by
    have a1 := h.1
    have a3 := h.2.2.1
    have aE := h.2.1
    refine fx_rg (fun hg => ?_)
    refine fx_li 2 10 (by decide +kernel) rfl ?_
    refine fx_la 0 11 (v := 1186) (by decide +kernel) rfl (by decide +kernel) ?_
    refine fx_gi 1186 148 10 14 (by decide +kernel) ?_
    rw [a1]
    cases n with
    | zero =>
      exact fx_ige 38 17 (by decide +kernel) (by unfold fR; omega) (by unfold fR; omega) (fun _ => kq) (fun h => by omega)
    | succ n =>
      refine fx_ige 38 17 (by decide +kernel) (by unfold fR; omega) (by unfold fR; omega) (fun h => by omega) (fun h14 => ?_)
      have kq : fx W r 4 275 38 [1186, s, fI (if isLe T k = true then spn (isLe T) n (k + 1) else k), 7] [] g Q := kq
      have t5 := RT_t h h0 h14
      refine fx_la 0 18 (v := 1186) (by decide +kernel) rfl (by decide +kernel) ?_
      refine fx_li 2 19 (by decide +kernel) rfl ?_
      refine fx_c2 272 21 22 0 [] (by decide +kernel) (by decide) (by decide) (fI_n4 _) rfl (by first | decide | omega) ?_
      refine sp_letterT h h0 (by omega) (fK1 ?_)
      refine fx_ci (97) 24 (by decide +kernel) ?_
      refine fx_ci (122) 26 (by decide +kernel) ?_
      refine fx_c3 266 22 29 0 [] (f_q22 (by decide +kernel)) (by decide) (fI_n4 _) (fI_n4 _) (fI_n4 _) rfl (by first | decide | omega) ?_
      refine sp_isIn (by unfold fR; omega) (by unfold fR; omega) (by unfold fR; omega) (fun b26 => fK1 ?_) (fun b26 => fK1 ?_)
      · refine fx_zeq 38 32 (by decide +kernel) (by unfold fR; omega) (fun hc => absurd hc (by decide)) (fun _ => ?_)
        refine fx_inc 2 35 (1) (by decide +kernel) rfl (Or.inr (f_s4 hs)) rfl ?_
        dsimp only [List.set]
        refine fx_go 9 (by decide +kernel) ?_
        rw [if_pos (by unfold isLe; simp only [decide_eq_true_eq]; exact b26)] at kq
        exact sp_has_1 n (k + 1) h hs (by omega) (by omega) (by omega) kq
      · refine fx_zeq 38 32 (by decide +kernel) (by unfold fR; omega) (fun _ => ?_) (fun hc => absurd hc (by decide))
        rw [if_neg (by unfold isLe; simp only [decide_eq_true_eq]; exact b26)] at kq
        exact kq
theorem sp_has_2 {at0 k0 : Int} (h : RT T E g) (hs : f_sk s) (ha : g 148 11 = at0) (h0 : 0 ≤ at0) (hE : at0 + (fStr s).length ≤ E) : ∀ (n i : Nat), i + n = (fStr s).length → (∀ k : Nat, k < i → T (at0 + k) = ((fStr s).getD k 0 : Nat)) → ((∀ k : Nat, k < (fStr s).length → T (at0 + k) = ((fStr s).getD k 0 : Nat)) → fx W r 4 275 89 [1186, s, fI k0, fI ((fStr s).length : Int)] [] g Q) → (¬ (∀ k : Nat, k < (fStr s).length → T (at0 + k) = ((fStr s).getD k 0 : Nat)) → Q 1 (fI 0) g) → fx W r 4 275 55 [1186, s, fI k0, fI (i : Int)] [] g Q
  | n, i, hn, hi, k1, k2 => by
    have hl := hs.2.2.1
    have a1 := h.1
    have a3 := h.2.2.1
    refine fx_rg (fun hg => ?_)
    refine fx_li 3 56 (by decide +kernel) rfl ?_
    refine fx_la 1 57 (v := s) (by decide +kernel) rfl (f_sty hs) ?_
    refine fx_c1 80 39 60 1 [] (f_q39 hs.1 (by decide +kernel)) (f_s4 hs) rfl (by first | decide | omega) ?_
    refine sp_len hs (fK1 ?_)
    refine fx_ige 89 63 (by decide +kernel) (by unfold fR; omega) (by unfold fR; omega) (fun h60 => ?_) (fun h60 => ?_)
    · have e : i = (fStr s).length := by omega
      subst e
      exact k1 hi
    · refine fx_la 0 64 (v := 1186) (by decide +kernel) rfl (by decide +kernel) ?_
      refine fx_la 0 65 (v := 1186) (by decide +kernel) rfl (by decide +kernel) ?_
      refine fx_gi 1186 148 11 68 (by decide +kernel) ?_
      try simp only [fu_app, fcy_app, Nat.reduceEqDiff, and_true, and_false, false_and, true_and, if_true, if_false, ite_true, ite_false, reduceIte, Int.reduceToNat, fx_simp0]
      refine fx_li 3 69 (by decide +kernel) rfl ?_
      refine fx_add 70 (by decide +kernel) rfl ?_
      rw [ha]
      have tv := RT_t h (k := at0 + i) (by omega) (by omega)
      have bv : (fStr s).getD i 0 < 128 := by
        refine hs.2.2.2 _ (List.mem_of_getElem? (i := i) ?_)
        rw [List.getD_eq_getElem?_getD, List.getElem?_eq_getElem (by omega)]
        rfl
      refine fx_c2 272 21 73 0 [] (by decide +kernel) (by decide) (by decide) (fI_n4 _) rfl (by first | decide | omega) ?_
      refine sp_letterT h (by omega) (by omega) (fK1 ?_)
      refine fx_la 1 74 (v := s) (by decide +kernel) rfl (f_sty hs) ?_
      refine fx_li 3 75 (by decide +kernel) rfl ?_
      refine fx_c2 82 39 78 3 [] (f_q39 hs.1 (by decide +kernel)) (by decide) (f_s4 hs) (fI_n4 _) rfl (by first | decide | omega) ?_
      refine sp_charAt hs (by omega) (by omega) (fK1 ?_)
      rw [show ((i : Int)).toNat = i from rfl]
      refine fx_ieq 83 81 (by decide +kernel) (by unfold fR; omega) (by unfold fR; omega) (fun h78 => ?_) (fun h78 => ?_)
      · refine fx_inc 3 86 (1) (by decide +kernel) rfl (Or.inr (fI_n4 _)) rfl ?_
        dsimp only [List.set]
        refine fx_go 55 (by decide +kernel) ?_
        match n, hn with
        | 0, hn => exfalso; omega
        | n + 1, hn =>
          exact sp_has_2 h hs ha h0 hE n (i + 1) (by omega) (fun k hk => by
            by_cases e : k = i
            · rw [e]; exact h78
            · exact hi k (by omega)) k1 k2
      · refine fx_ci (0) 82 (by decide +kernel) ?_
        refine fx_retb (by decide +kernel) (by first | exact Or.inl rfl | exact Or.inr rfl | omega) ?_
        exact k2 (fun t => h78 (t i (by omega)))
theorem sp_has (h : RT T E g) (hs : f_sk s) (h0 : 0 ≤ g 148 11) (h4 : g 148 11 ≤ E)
    (k1 : pWd T E (fStr s) (pSk T E (g 148 11)) → Q 1 (fI 1) (fu g 148 11 (pWe T E (pSk T E (g 148 11)))))
    (k2 : ¬ pWd T E (fStr s) (pSk T E (g 148 11)) → Q 1 (fI 0) (fu g 148 11 (pSk T E (g 148 11)))) : fx W r 4 275 0 [1186, s, 7, 7] [] g Q := by
  have hl := hs.2.2.1
  have a1 := h.1
  have aE := h.2.1
  have a3 := h.2.2.1
  have f0 := pSk_ge T E (g 148 11)
  have f1 := pSk_le (T := T) h4
  have w0 := pWe_ge T E (pSk T E (g 148 11))
  have w1 := pWe_le (T := T) f1
  have h' := RT_fu h (j := 11) (z := pSk T E (g 148 11)) (by decide) (by decide)
  refine fx_la 0 1 (v := 1186) (by decide +kernel) rfl (by decide +kernel) ?_
  refine fx_c1 271 21 4 1 [] (by decide +kernel) (by decide) rfl (by first | decide | omega) ?_
  refine sp_skip h h0 (fK0 ?_)
  refine fx_la 0 5 (v := 1186) (by decide +kernel) rfl (by decide +kernel) ?_
  refine fx_gi 1186 148 11 8 (by decide +kernel) ?_
  try simp only [fu_app, fcy_app, Nat.reduceEqDiff, and_true, and_false, false_and, true_and, if_true, if_false, ite_true, ite_false, reduceIte, Int.reduceToNat, fx_simp0]
  try rw [fu_eq]
  refine fx_si 2 9 (by decide +kernel) (Or.inr (f_s4 hs)) rfl ?_
  dsimp only [List.set]
  refine sp_has_1 _ _ h' hs (by omega) (by omega) rfl ?_
  show fx W r _ _ 38 [_, s, fI (pWe T E (pSk T E (g 148 11))), 7] [] _ Q
  refine fx_li 2 39 (by decide +kernel) rfl ?_
  refine fx_la 0 40 (v := 1186) (by decide +kernel) rfl (by decide +kernel) ?_
  refine fx_gi 1186 148 11 43 (by decide +kernel) ?_
  try simp only [fu_app, fcy_app, Nat.reduceEqDiff, and_true, and_false, false_and, true_and, if_true, if_false, ite_true, ite_false, reduceIte, Int.reduceToNat, fx_simp0]
  try rw [fu_eq]
  refine fx_sub 44 (by decide +kernel) rfl ?_
  refine fx_la 1 45 (v := s) (by decide +kernel) rfl (f_sty hs) ?_
  refine fx_c1 80 39 48 1 [] (f_q39 hs.1 (by decide +kernel)) (f_s4 hs) rfl (by first | decide | omega) ?_
  refine sp_len hs (fK1 ?_)
  refine fx_ieq 53 51 (by decide +kernel) (by unfold fR; omega) (by unfold fR; omega) (fun h48 => ?_) (fun h48 => ?_)
  · refine fx_ci (0) 54 (by decide +kernel) ?_
    refine fx_si 3 55 (by decide +kernel) (Or.inr (fI_n4 _)) rfl ?_
    dsimp only [List.set]
    refine sp_has_2 h' hs (fu_eq _ _ _ _) (by omega) (by omega) _ 0 (Nat.zero_add _) (fun k hk => absurd hk (Nat.not_lt_zero k)) (fun t => ?_) (fun t => k2 (fun q => t q.2))
    have k1 := k1 ⟨h48, t⟩
    refine fx_la 0 90 (v := 1186) (by decide +kernel) rfl (by decide +kernel) ?_
    refine fx_li 2 91 (by decide +kernel) rfl ?_
    refine fx_pi 1186 148 11 94 (by decide +kernel) (by unfold fR; omega) ?_
    refine fx_ci (1) 95 (by decide +kernel) ?_
    refine fx_retb (by decide +kernel) (by first | exact Or.inl rfl | exact Or.inr rfl | omega) ?_
    rw [fu_fu]
    exact k1
  · refine fx_ci (0) 52 (by decide +kernel) ?_
    refine fx_retb (by decide +kernel) (by first | exact Or.inl rfl | exact Or.inr rfl | omega) ?_
    exact k2 (fun t => h48 t.1)
end FXI
