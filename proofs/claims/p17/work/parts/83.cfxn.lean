/-! fx: dishes, roads, promises, numbers told, as the reference reads them -/
/-- a dish's figures -/
def dshR (T : Int → Int) (f d : Int) : Nat → (Nat → Nat → Int) → Nat → Nat → Int
  | 0, g => g
  | k + 1, g => fu (dshR T f d k g) 149 (68 + 8 * d + k).toNat (T (f + k) - 48)
def apD (T : Int → Int) (f : Int) (g : Nat → Nat → Int) : Nat → Nat → Int := fu (dshR T f (g 149 4) 8 g) 149 4 (g 149 4 + 1)
theorem dshR_ne {T : Int → Int} {f d : Int} {g : Nat → Nat → Int} {c j : Nat} (hd : 0 ≤ d) (h : c ≠ 149 ∨ j < 68) : ∀ k : Nat, dshR T f d k g c j = g c j
  | 0 => rfl
  | k + 1 => by
    show fu (dshR T f d k g) 149 (68 + 8 * d + k).toNat _ c j = _
    rw [fu_ne (by omega), dshR_ne hd h k]
theorem dshR_fu {T : Int → Int} {f d z : Int} {g : Nat → Nat → Int} {c j : Nat} (h : c ≠ 149) : ∀ k : Nat, fu (dshR T f d k g) c j z = dshR T f d k (fu g c j z)
  | 0 => rfl
  | k + 1 => by
    show fu (fu (dshR T f d k g) 149 (68 + 8 * d + k).toNat _) c j z = fu (dshR T f d k (fu g c j z)) 149 (68 + 8 * d + k).toNat _
    rw [← dshR_fu h k, fu_sw _ _ _ (fun t => h t.1.symm)]
noncomputable def pDish (T : Int → Int) (E f : Int) : Int ⊕ (Int × List Int) := cif (pDg T E f - f = 8) (Sum.inr (pSk T E (f + 8), [1, f])) (Sum.inl f)
/-- two numbers, not alike -/
noncomputable def pTwo (T : Int → Int) (E hi f : Int) : Int ⊕ (Int × Int × Int) := cif (pN T E 0 hi f) (cif (pN T E 0 hi (pSk T E (pDg T E f)) ∧ pNu T E (pSk T E (pDg T E f)) ≠ pNu T E f) (Sum.inr (pSk T E (pDg T E (pSk T E (pDg T E f))), pNu T E f, pNu T E (pSk T E (pDg T E f)))) (Sum.inl (pSk T E (pDg T E f)))) (Sum.inl f)
section FXN
variable {W : ax_W} {r : Nat} {g : Nat → Nat → Int} {Q : Nat → Nat → (Nat → Nat → Int) → Prop} {T : Int → Int} {E : Int}
theorem RT_dsh {f d : Int} (hb : g 148 9 = -1) (h : RT T E g) (hd : 0 ≤ d) (k : Nat) : RT T E (dshR T f d k g) := by
  induction k with
  | zero => exact h
  | succ k ih => exact RT_m (by rw [dshR_ne hd (Or.inl (by decide))]; exact hb) ih
theorem sp_dl_1 {b f : Int} (h : RT T E g) (h0 : 0 ≤ f) (kq : fx W r 3 289 65 [1186, fI b, fI f, fI (pDg T E f - f), 7] [] g Q) :
    ∀ (n : Nat) (k : Int), (E - (f + k)).toNat = n → 0 ≤ k → f + k ≤ E → (∀ j, f ≤ j → j < f + k → isDi T j = true) → fx W r 3 289 32 [1186, fI b, fI f, fI k, 7] [] g Q
  | n, k, hn, hk, hE, hd => by
    have a1 := h.1
    have aE := h.2.1
    have a3 := h.2.2.1
    refine fx_rg (fun hg => ?_)
    refine fx_li 2 33 (by decide +kernel) rfl ?_
    refine fx_li 3 34 (by decide +kernel) rfl ?_
    refine fx_add 35 (by decide +kernel) rfl ?_
    refine fx_la 0 36 (v := 1186) (by decide +kernel) rfl (by decide +kernel) ?_
    refine fx_gi 1186 148 10 39 (by decide +kernel) ?_
    refine fx_ige 65 42 (by decide +kernel) (by unfold fR; omega) (by first | exact hg 148 10 (by decide) (by decide +kernel) (by decide +kernel) | (unfold fR; omega)) (fun h39 => ?_) (fun h39 => ?_)
    · have e : pDg T E f = f + k := prun_char (by omega) hE hd (by
        first
          | exact Or.inl (by omega)
          | exact Or.inr (by unfold isDi; exact decide_eq_false b53))
      rw [e, show f + k - f = k by omega] at kq
      exact kq
    · have tv := RT_t h (k := f + k) (by omega) (by omega)
      refine fx_la 0 43 (v := 1186) (by decide +kernel) rfl (by decide +kernel) ?_
      refine fx_li 2 44 (by decide +kernel) rfl ?_
      refine fx_li 3 45 (by decide +kernel) rfl ?_
      refine fx_add 46 (by decide +kernel) rfl ?_
      refine fx_c2 272 21 49 0 [] (by decide +kernel) (by decide) (by decide) (fI_n4 _) rfl (by first | decide | omega) ?_
      refine sp_letterT h (by omega) (by omega) (fK1 ?_)
      refine fx_ci (48) 51 (by decide +kernel) ?_
      refine fx_ci (57) 53 (by decide +kernel) ?_
      refine fx_c3 266 22 56 0 [] (f_q22 (by decide +kernel)) (by decide) (fI_n4 _) (fI_n4 _) (fI_n4 _) rfl (by first | decide | omega) ?_
      refine sp_isIn (by unfold fR; omega) (by unfold fR; omega) (by unfold fR; omega) (fun b53 => fK1 ?_) (fun b53 => fK1 ?_)
      · refine fx_zeq 65 59 (by decide +kernel) (by unfold fR; omega) (fun hc => absurd hc (by decide)) (fun _ => ?_)
        refine fx_inc 3 62 (1) (by decide +kernel) rfl (Or.inr (fI_n4 _)) rfl ?_
        dsimp only [List.set]
        refine fx_go 32 (by decide +kernel) ?_
        match n, hn with
        | 0, hn => exfalso; omega
        | n + 1, hn =>
          refine sp_dl_1 h h0 kq n (k + 1) (by omega) (by omega) (by omega) (fun j j1 j2 => ?_)
          by_cases e : j = f + k
          · rw [e]; unfold isDi; exact decide_eq_true b53
          · exact hd j j1 (by omega)
      · refine fx_zeq 65 59 (by decide +kernel) (by unfold fR; omega) (fun _ => ?_) (fun hc => absurd hc (by decide))
        have e : pDg T E f = f + k := prun_char (by omega) hE hd (by
          first
            | exact Or.inl (by omega)
            | exact Or.inr (by unfold isDi; exact decide_eq_false b53))
        rw [e, show f + k - f = k by omega] at kq
        exact kq
theorem sp_dl_2 {b f : Int} (hb : g 148 9 = -1) (h : RT T E g) (h0 : 0 ≤ f) (hE : f + 8 ≤ E) (hd0 : 0 ≤ g 149 4) (hd1 : g 149 4 ≤ 5) (kq : fx W r 3 289 132 [1186, fI b, fI f, fI 8, fI 8] [] (dshR T f (g 149 4) 8 g) Q) :
    ∀ (n k : Nat), k + n = 8 → fx W r 3 289 88 [1186, fI b, fI f, fI 8, fI (k : Int)] [] (dshR T f (g 149 4) k g) Q
  | n, k, hn => by
    have aE := h.2.1
    have a3 := h.2.2.1
    have h' := RT_dsh (f := f) hb h hd0 k
    have e4 : dshR T f (g 149 4) k g 149 4 = g 149 4 := dshR_ne hd0 (Or.inr (by decide)) k
    refine fx_li 4 90 (by decide +kernel) rfl ?_
    refine fx_ci (8) 92 (by decide +kernel) ?_
    refine fx_ige 132 95 (by decide +kernel) (by unfold fR; omega) (by unfold fR; omega) (fun h92 => ?_) (fun h92 => ?_)
    · have e : k = 8 := by omega
      subst e
      exact kq
    · refine fx_la 0 96 (v := 1186) (by decide +kernel) rfl (by decide +kernel) ?_
      refine fx_gp 1186 148 1 1194 99 (by decide +kernel) ?_
      refine fx_ci (68) 101 (by decide +kernel) ?_
      refine fx_ci (8) 103 (by decide +kernel) ?_
      refine fx_la 0 104 (v := 1186) (by decide +kernel) rfl (by decide +kernel) ?_
      refine fx_gp 1186 148 1 1194 107 (by decide +kernel) ?_
      refine fx_ci (4) 108 (by decide +kernel) ?_
      refine fx_al 1194 149 764 109 (by decide +kernel) rfl (by omega) (by omega) rfl ?_
      try simp only [fu_app, fcy_app, Nat.reduceEqDiff, and_true, and_false, false_and, true_and, if_true, if_false, ite_true, ite_false, reduceIte, Int.reduceToNat, fx_simp0]
      rw [e4]
      refine fx_mul 110 (by decide +kernel) rfl ?_
      refine fx_add 111 (by decide +kernel) rfl ?_
      refine fx_li 4 113 (by decide +kernel) rfl ?_
      refine fx_add 114 (by decide +kernel) rfl ?_
      have tv := RT_t h (k := f + k) (by omega) (by omega)
      refine fx_la 0 115 (v := 1186) (by decide +kernel) rfl (by decide +kernel) ?_
      refine fx_li 2 116 (by decide +kernel) rfl ?_
      refine fx_li 4 118 (by decide +kernel) rfl ?_
      refine fx_add 119 (by decide +kernel) rfl ?_
      refine fx_c2 272 21 122 0 [] (by decide +kernel) (by decide) (by decide) (fI_n4 _) rfl (by first | decide | omega) ?_
      refine sp_letterT h' (by omega) (by omega) (fK1 ?_)
      refine fx_ci (48) 124 (by decide +kernel) ?_
      refine fx_sub 125 (by decide +kernel) rfl ?_
      refine fx_as 1194 149 764 126 (by decide +kernel) rfl (by omega) (by omega) rfl (by unfold fR; omega) ?_
      refine fx_inc 4 129 (1) (by decide +kernel) rfl (Or.inr (fI_n4 _)) rfl ?_
      dsimp only [List.set]
      refine fx_go 88 (by decide +kernel) ?_
      match n, hn with
      | 0, hn => exfalso; omega
      | n + 1, hn => exact sp_dl_2 hb h h0 hE hd0 hd1 kq n (k + 1) (by omega)
theorem sp_dishLine {b f : Int} (hb : g 148 9 = -1) (h : RT T E g) (hf : g 148 12 = -1) (h0 : 0 ≤ g 148 11) (h4 : g 148 11 ≤ E) (hsk : pSk T E (g 148 11) = f) (hp0 : 0 ≤ g 149 4) (hp1 : g 149 4 ≤ 6) (hb0 : 0 ≤ b) (hb1 : b ≤ 400)
    (k8 : g 149 4 = 6 → ∀ a, 0 ≤ a → a ≤ E → Q 0 0 (fu (fu g 148 11 a) 148 12 b))
    (kq : g 149 4 ≠ 6 → ∀ f', pDish T E f = Sum.inr (f', [1, f]) → ∀ a, 0 ≤ a → a ≤ E → pSk T E a = f' → Q 0 0 (apD T f (fu g 148 11 a)))
    (kf : g 149 4 ≠ 6 → ∀ q, pDish T E f = Sum.inl q → ∀ a, 0 ≤ a → a ≤ E → Q 0 0 (fu (fu g 148 11 a) 148 12 q)) : fx W r 3 289 0 [1186, fI b, 7, 7, 7] [] g Q := by
  have aE := h.2.1
  have a3 := h.2.2.1
  refine fx_rg (fun hg => ?_)
  have f0 := pSk_ge T E (g 148 11)
  have f1 := pSk_le (T := T) h4
  have f2 : 0 ≤ f ∧ f ≤ E ∧ pSk T E f = f := by subst hsk; exact ⟨by omega, f1, pSk_id h4⟩
  obtain ⟨f2, f3, f4⟩ := f2
  have d0 := pDg_ge T E f
  have d1 := pDg_le (T := T) f3
  refine fx_la 0 1 (v := 1186) (by decide +kernel) rfl (by decide +kernel) ?_
  refine fx_gp 1186 148 1 1194 4 (by decide +kernel) ?_
  refine fx_ci (4) 5 (by decide +kernel) ?_
  refine fx_al 1194 149 764 6 (by decide +kernel) rfl (by omega) (by omega) rfl ?_
  try simp only [fu_app, fcy_app, Nat.reduceEqDiff, and_true, and_false, false_and, true_and, if_true, if_false, ite_true, ite_false, reduceIte, Int.reduceToNat, fx_simp0]
  refine fx_ci (6) 8 (by decide +kernel) ?_
  refine fx_ine 16 11 (by decide +kernel) (by unfold fR; omega) (by unfold fR; omega) (fun h8 => ?_) (fun h8 => ?_)
  · refine fx_la 0 17 (v := 1186) (by decide +kernel) rfl (by decide +kernel) ?_
    refine fx_gi 1186 148 12 20 (by decide +kernel) ?_
    refine fx_ci (-1) 21 (by decide +kernel) ?_
    refine fx_ieq 25 24 (by decide +kernel) (by first | exact hg 148 12 (by decide) (by decide +kernel) (by decide +kernel) | (unfold fR; omega)) (by unfold fR; omega) (fun h21 => ?_) (fun h21 => ?_)
    · have h25 := h8
      refine fx_la 0 26 (v := 1186) (by decide +kernel) rfl (by decide +kernel) ?_
      refine fx_c1 277 21 29 2 [] (by decide +kernel) (by decide) rfl (by first | decide | omega) ?_
      refine sp_here h h0 (fK1 ?_)
      rw [hsk]
      refine fx_si 2 30 (by decide +kernel) (Or.inr (fI_n4 _)) rfl ?_
      dsimp only [List.set]
      refine fx_ci (0) 31 (by decide +kernel) ?_
      refine fx_si 3 32 (by decide +kernel) (Or.inr (fI_n4 _)) rfl ?_
      dsimp only [List.set]
      have hR : ∀ a, RT T E (fu g 148 11 a) := fun a => RT_fu h (by decide) (by decide)
      refine sp_dl_1 (hR _) f2 ?_ _ 0 rfl (Int.le_refl 0) (by omega) (fun j j1 j2 => by omega)
      refine fx_li 3 66 (by decide +kernel) rfl ?_
      refine fx_ci (8) 68 (by decide +kernel) ?_
      refine fx_ieq 76 71 (by decide +kernel) (by unfold fR; omega) (by unfold fR; omega) (fun h68 => ?_) (fun h68 => ?_)
      · refine fx_la 0 77 (v := 1186) (by decide +kernel) rfl (by decide +kernel) ?_
        refine fx_gi 1186 148 12 80 (by decide +kernel) ?_
        try simp only [fu_app, fcy_app, Nat.reduceEqDiff, and_true, and_false, false_and, true_and, if_true, if_false, ite_true, ite_false, reduceIte, Int.reduceToNat, fx_simp0]
        refine fx_ci (-1) 81 (by decide +kernel) ?_
        refine fx_ieq 85 84 (by decide +kernel) (by unfold fR; omega) (by unfold fR; omega) (fun h81 => ?_) (fun h81 => ?_)
        · refine fx_ci (0) 86 (by decide +kernel) ?_
          refine fx_si 4 88 (by decide +kernel) (Or.inr (fI_n4 _)) rfl ?_
          dsimp only [List.set]
          rw [h68]
          refine sp_dl_2 (g := fu g 148 11 f) (by rw [fu_nj (by decide)]; exact hb) (hR _) f2 (by omega) (by rw [fu_nc (by decide)]; omega) (by rw [fu_nc (by decide)]; omega) ?_ 8 0 rfl
          rw [fu_nc (by decide)]
          have e4 : ∀ z, fu (dshR T f (g 149 4) 8 (fu g 148 11 f)) 148 11 z 149 4 = g 149 4 := fun z => by rw [fu_nc (by decide), dshR_ne hp0 (Or.inr (by decide)), fu_nc (by decide)]
          refine fx_la 0 133 (v := 1186) (by decide +kernel) rfl (by decide +kernel) ?_
          refine fx_li 2 134 (by decide +kernel) rfl ?_
          refine fx_li 3 135 (by decide +kernel) rfl ?_
          refine fx_add 136 (by decide +kernel) rfl ?_
          refine fx_pi 1186 148 11 139 (by decide +kernel) (by unfold fR; omega) ?_
          refine fx_la 0 140 (v := 1186) (by decide +kernel) rfl (by decide +kernel) ?_
          refine fx_gp 1186 148 1 1194 143 (by decide +kernel) ?_
          refine fx_ci (4) 144 (by decide +kernel) ?_
          refine fx_dup2 145 (by decide +kernel) rfl (fI_n4 _) (by decide) ?_
          refine fx_al 1194 149 764 146 (by decide +kernel) rfl (by omega) (by omega) rfl ?_
          try simp only [fu_app, fcy_app, Nat.reduceEqDiff, and_true, and_false, false_and, true_and, if_true, if_false, ite_true, ite_false, reduceIte, Int.reduceToNat, fx_simp0]
          rw [dshR_ne hp0 (Or.inr (by decide)), fu_nc (by decide)]
          refine fx_ci (1) 147 (by decide +kernel) ?_
          refine fx_add 148 (by decide +kernel) rfl ?_
          refine fx_as 1194 149 764 149 (by decide +kernel) rfl (by omega) (by omega) rfl (by unfold fR; omega) ?_
          refine fx_vret (by decide +kernel) ?_
          have kq := kq h8 (pSk T E (f + 8)) (by unfold pDish; rw [cif_t h68]) (f + 8) (by omega) (by omega) rfl
          unfold apD at kq
          rw [fu_nc (by decide)] at kq
          rw [dshR_fu (by decide), fu_fu, show (4 : Int).toNat = 4 from rfl]
          exact kq
        · refine fx_vret (by decide +kernel) ?_
          exact absurd hf h81
      · refine fx_la 0 72 (v := 1186) (by decide +kernel) rfl (by decide +kernel) ?_
        refine fx_li 2 73 (by decide +kernel) rfl ?_
        refine fx_c2 273 21 76 0 [] (by decide +kernel) (by decide) (by decide) (fI_n4 _) rfl (by first | decide | omega) ?_
        refine sp_wrong (by rw [fu_nj (by decide)]; exact hf) (by unfold fR; omega) (fK0 ?_)
        refine fx_la 0 77 (v := 1186) (by decide +kernel) rfl (by decide +kernel) ?_
        refine fx_gi 1186 148 12 80 (by decide +kernel) ?_
        try simp only [fu_app, fcy_app, Nat.reduceEqDiff, and_true, and_false, false_and, true_and, if_true, if_false, ite_true, ite_false, reduceIte, Int.reduceToNat, fx_simp0]
        refine fx_ci (-1) 81 (by decide +kernel) ?_
        refine fx_ieq 85 84 (by decide +kernel) (by unfold fR; omega) (by unfold fR; omega) (fun h81 => ?_) (fun h81 => ?_)
        · exfalso; omega
        · refine fx_vret (by decide +kernel) ?_
          exact kf h8 _ (by unfold pDish; rw [cif_f h68]) f f2 f3
    · refine fx_vret (by decide +kernel) ?_
      exact absurd hf h21
  · refine fx_la 0 12 (v := 1186) (by decide +kernel) rfl (by decide +kernel) ?_
    refine fx_li 1 13 (by decide +kernel) rfl ?_
    refine fx_c2 273 21 16 0 [] (by decide +kernel) (by decide) (by decide) (fI_n4 _) rfl (by first | decide | omega) ?_
    refine sp_wrong hf (by unfold fR; omega) (fK0 ?_)
    refine fx_la 0 17 (v := 1186) (by decide +kernel) rfl (by decide +kernel) ?_
    refine fx_gi 1186 148 12 20 (by decide +kernel) ?_
    try simp only [fu_app, fcy_app, Nat.reduceEqDiff, and_true, and_false, false_and, true_and, if_true, if_false, ite_true, ite_false, reduceIte, Int.reduceToNat, fx_simp0]
    refine fx_ci (-1) 21 (by decide +kernel) ?_
    refine fx_ieq 25 24 (by decide +kernel) (by unfold fR; omega) (by unfold fR; omega) (fun h21 => ?_) (fun h21 => ?_)
    · exfalso; omega
    · refine fx_vret (by decide +kernel) ?_
      have k8 := k8 h8 (g 148 11) h0 h4
      rw [fu_self] at k8
      exact k8
theorem sp_another_f {one bd : Int} (h : RT T E g) (hf : g 148 12 ≠ -1) (h0 : 0 ≤ g 148 11) (h4 : g 148 11 ≤ E) (kq : ∀ a, 0 ≤ a → a ≤ E → Q 1 (fI 0) (fu g 148 11 a)) : fx W r 4 291 0 [1186, fI one, fI bd, 7, 7] [] g Q := by
  refine fx_rg (fun hg => ?_)
  have f0 := pSk_ge T E (g 148 11)
  have f1 := pSk_le (T := T) h4
  have hgf := hg 148 12 (by decide) (by decide +kernel) (by decide +kernel)
  unfold fR at hgf
  refine fx_la 0 1 (v := 1186) (by decide +kernel) rfl (by decide +kernel) ?_
  refine fx_c1 277 21 4 2 [] (by decide +kernel) (by decide) rfl (by first | decide | omega) ?_
  refine sp_here h h0 (fK1 ?_)
  refine fx_si 3 5 (by decide +kernel) (Or.inr (fI_n4 _)) rfl ?_
  dsimp only [List.set]
  refine fx_la 0 6 (v := 1186) (by decide +kernel) rfl (by decide +kernel) ?_
  refine fx_ci (0) 7 (by decide +kernel) ?_
  refine fx_li 2 8 (by decide +kernel) rfl ?_
  refine fx_ci (1) 9 (by decide +kernel) ?_
  refine fx_sub 10 (by decide +kernel) rfl ?_
  refine fx_c3 276 21 13 3 [7, 7] (by decide +kernel) (by decide) (by decide) (fI_n4 _) (fI_n4 _) rfl (by first | decide | omega) ?_
  refine sp_figures_f (by rw [fu_nj (by decide)]; exact hf) (fK1 ?_)
  refine fx_si 4 15 (by decide +kernel) (Or.inr (fI_n4 _)) rfl ?_
  dsimp only [List.set]
  refine fx_la 0 16 (v := 1186) (by decide +kernel) rfl (by decide +kernel) ?_
  refine fx_gi 1186 148 12 19 (by decide +kernel) ?_
  try simp only [fu_app, fcy_app, Nat.reduceEqDiff, and_true, and_false, false_and, true_and, if_true, if_false, ite_true, ite_false, reduceIte, Int.reduceToNat, fx_simp0]
  refine fx_ci (-1) 20 (by decide +kernel) ?_
  refine fx_ine 34 23 (by decide +kernel) (by unfold fR; omega) (by unfold fR; omega) (fun h20 => ?_) (fun h20 => ?_)
  · refine fx_li 4 36 (by decide +kernel) rfl ?_
    refine fx_ret (by decide +kernel) ?_
    exact kq _ (by omega) f1
  · exact absurd h20 hf
theorem sp_another {one bd f : Int} (h : RT T E g) (hf : g 148 12 = -1) (h0 : 0 ≤ g 148 11) (h4 : g 148 11 ≤ E) (hsk : pSk T E (g 148 11) = f) (h1 : fR one) (hb0 : 0 ≤ bd) (hb1 : bd ≤ 100)
    (k1 : pN T E 0 (bd - 1) f → pNu T E f ≠ one → Q 1 (fI (pNu T E f)) (fu g 148 11 (pDg T E f)))
    (k2 : ¬ (pN T E 0 (bd - 1) f ∧ pNu T E f ≠ one) → ∀ a v, 0 ≤ a → a ≤ E → fR v → Q 1 (fI v) (fu (fu g 148 11 a) 148 12 f)) : fx W r 4 291 0 [1186, fI one, fI bd, 7, 7] [] g Q := by
  have aE := h.2.1
  have a3 := h.2.2.1
  refine fx_rg (fun hg => ?_)
  have f0 := pSk_ge T E (g 148 11)
  have f1 := pSk_le (T := T) h4
  have f2 : 0 ≤ f ∧ f ≤ E ∧ pSk T E f = f := by subst hsk; exact ⟨by omega, f1, pSk_id h4⟩
  obtain ⟨f2, f3, f4⟩ := f2
  have d0 := pDg_ge T E f
  have d1 := pDg_le (T := T) f3
  unfold fR at h1
  refine fx_la 0 1 (v := 1186) (by decide +kernel) rfl (by decide +kernel) ?_
  refine fx_c1 277 21 4 2 [] (by decide +kernel) (by decide) rfl (by first | decide | omega) ?_
  refine sp_here h h0 (fK1 ?_)
  rw [hsk]
  refine fx_si 3 5 (by decide +kernel) (Or.inr (fI_n4 _)) rfl ?_
  dsimp only [List.set]
  refine fx_la 0 6 (v := 1186) (by decide +kernel) rfl (by decide +kernel) ?_
  refine fx_ci (0) 7 (by decide +kernel) ?_
  refine fx_li 2 8 (by decide +kernel) rfl ?_
  refine fx_ci (1) 9 (by decide +kernel) ?_
  refine fx_sub 10 (by decide +kernel) rfl ?_
  refine fx_c3 276 21 13 3 [7, 7] (by decide +kernel) (by decide) (by decide) (fI_n4 _) (fI_n4 _) rfl (by first | decide | omega) ?_
  refine sp_figures (RT_fu h (by decide) (by decide)) (by rw [fu_nj (by decide)]; exact hf) (by rw [fu_eq]; omega) (by rw [fu_eq]; omega) (by unfold fR; omega) (by unfold fR; omega) (fun p => fK1 ?_) (fun p a v q1 q2 q3 => fK1 ?_)
  · rw [fu_eq, f4] at p
    simp only [fu_eq, fu_fu, f4]
    have pn := p.2.2
    refine fx_si 4 15 (by decide +kernel) (Or.inr (fI_n4 _)) rfl ?_
    dsimp only [List.set]
    refine fx_la 0 16 (v := 1186) (by decide +kernel) rfl (by decide +kernel) ?_
    refine fx_gi 1186 148 12 19 (by decide +kernel) ?_
    try simp only [fu_app, fcy_app, Nat.reduceEqDiff, and_true, and_false, false_and, true_and, if_true, if_false, ite_true, ite_false, reduceIte, Int.reduceToNat, fx_simp0]
    refine fx_ci (-1) 20 (by decide +kernel) ?_
    rw [hf]
    refine fx_ine 34 23 (by decide +kernel) (by unfold fR; omega) (by unfold fR; omega) (fun h20 => ?_) (fun h20 => ?_)
    · refine fx_li 4 36 (by decide +kernel) rfl ?_
      refine fx_ret (by decide +kernel) ?_
      exact absurd rfl h20
    · refine fx_li 4 25 (by decide +kernel) rfl ?_
      refine fx_li 1 26 (by decide +kernel) rfl ?_
      refine fx_ine 34 29 (by decide +kernel) (by unfold fR; omega) (by unfold fR; omega) (fun h26 => ?_) (fun h26 => ?_)
      · refine fx_li 4 36 (by decide +kernel) rfl ?_
        refine fx_ret (by decide +kernel) ?_
        exact k1 p h26
      · refine fx_la 0 30 (v := 1186) (by decide +kernel) rfl (by decide +kernel) ?_
        refine fx_li 3 31 (by decide +kernel) rfl ?_
        refine fx_c2 273 21 34 0 [] (by decide +kernel) (by decide) (by decide) (fI_n4 _) rfl (by first | decide | omega) ?_
        refine sp_wrong (by rw [fu_nj (by decide)]; exact hf) (by unfold fR; omega) (fK0 ?_)
        refine fx_li 4 36 (by decide +kernel) rfl ?_
        refine fx_ret (by decide +kernel) ?_
        exact k2 (fun t => t.2 h26) _ _ (by omega) d1 (by unfold fR; omega)
  · rw [fu_eq, f4] at p
    simp only [fu_eq, fu_fu, f4]
    unfold fR at q3
    refine fx_si 4 15 (by decide +kernel) (Or.inr (fI_n4 _)) rfl ?_
    dsimp only [List.set]
    refine fx_la 0 16 (v := 1186) (by decide +kernel) rfl (by decide +kernel) ?_
    refine fx_gi 1186 148 12 19 (by decide +kernel) ?_
    try simp only [fu_app, fcy_app, Nat.reduceEqDiff, and_true, and_false, false_and, true_and, if_true, if_false, ite_true, ite_false, reduceIte, Int.reduceToNat, fx_simp0]
    refine fx_ci (-1) 20 (by decide +kernel) ?_
    refine fx_ine 34 23 (by decide +kernel) (by unfold fR; omega) (by unfold fR; omega) (fun h20 => ?_) (fun h20 => ?_)
    · refine fx_li 4 36 (by decide +kernel) rfl ?_
      refine fx_ret (by decide +kernel) ?_
      exact k2 (fun t => p t.1) a v q1 q2 (by unfold fR; omega)
    · exfalso; omega
/-- what a road's line does -/
noncomputable def apR (one other : Int) (g : Nat → Nat → Int) : Nat → Nat → Int := fu (fu g 149 (116 + one).toNat (fop 4 (g 149 (116 + one).toNat) (fop 6 1 other))) 149 (116 + other).toNat (fop 4 (fu g 149 (116 + one).toNat (fop 4 (g 149 (116 + one).toNat) (fop 6 1 other)) 149 (116 + other).toNat) (fop 6 1 one))
theorem sp_roadLine {f : Int} (h : RT T E g) (hf : g 148 12 = -1) (h0 : 0 ≤ g 148 11) (h4 : g 148 11 ≤ E) (hsk : pSk T E (g 148 11) = f)
    (kq : ∀ f' x y, pTwo T E 7 f = Sum.inr (f', x, y) → 0 ≤ x → x ≤ 7 → 0 ≤ y → y ≤ 7 → ∀ a, 0 ≤ a → a ≤ E → pSk T E a = f' → Q 0 0 (apR x y (fu g 148 11 a)))
    (kf : ∀ q, pTwo T E 7 f = Sum.inl q → ∀ a, 0 ≤ a → a ≤ E → Q 0 0 (fu (fu g 148 11 a) 148 12 q)) : fx W r 5 290 0 [1186, 7, 7] [] g Q := by
  have aE := h.2.1
  have a3 := h.2.2.1
  refine fx_rg (fun hg => ?_)
  have f0 := pSk_ge T E (g 148 11)
  have f1 := pSk_le (T := T) h4
  have f2 : 0 ≤ f ∧ f ≤ E ∧ pSk T E f = f := by subst hsk; exact ⟨by omega, f1, pSk_id h4⟩
  obtain ⟨f2, f3, f4⟩ := f2
  have d0 := pDg_ge T E f
  have d1 := pDg_le (T := T) f3
  have s0 := pSk_ge T E (pDg T E f)
  have s1 := pSk_le (T := T) d1
  have d2 := pDg_ge T E (pSk T E (pDg T E f))
  have d3 := pDg_le (T := T) s1
  have hgf := hg 148 12 (by decide) (by decide +kernel) (by decide +kernel)
  unfold pTwo at kq kf
  refine fx_la 0 1 (v := 1186) (by decide +kernel) rfl (by decide +kernel) ?_
  refine fx_ci (0) 2 (by decide +kernel) ?_
  refine fx_ci (7) 4 (by decide +kernel) ?_
  refine fx_c3 276 21 7 3 [7, 7] (by decide +kernel) (by decide) (by decide) (fI_n4 _) (fI_n4 _) rfl (by first | decide | omega) ?_
  refine sp_figures h hf h0 h4 (by unfold fR; omega) (by unfold fR; omega) (fun p => fK1 ?_) (fun p a v q1 q2 q3 => fK1 ?_)
  · rw [hsk] at p
    simp only [hsk]
    have pn := p.2.2
    refine fx_si 1 8 (by decide +kernel) (Or.inr (f_n4p (v := 1186) rfl (by decide))) rfl ?_
    dsimp only [List.set]
    refine fx_la 0 9 (v := 1186) (by decide +kernel) rfl (by decide +kernel) ?_
    refine fx_li 1 10 (by decide +kernel) rfl ?_
    refine fx_ci (8) 12 (by decide +kernel) ?_
    refine fx_c3 291 21 15 4 [7, 7] (by decide +kernel) (by decide) (by decide) (fI_n4 _) (fI_n4 _) rfl (by first | decide | omega) ?_
    refine sp_another (f := pSk T E (pDg T E f)) (RT_fu h (by decide) (by decide)) (by rw [fu_nj (by decide)]; exact hf) (by rw [fu_eq]; omega) (by rw [fu_eq]; omega) (by rw [fu_eq]) (by unfold fR; omega) (by decide) (by decide) (fun p1 p2 => fK1 ?_) (fun p1 a v q1 q2 q3 => fK1 ?_)
    · rw [fu_fu]
      have pm : _ ≤ pNu T E (pSk T E (pDg T E f)) ∧ pNu T E (pSk T E (pDg T E f)) ≤ _ := p1.2.2
      refine fx_si 2 16 (by decide +kernel) (Or.inr (fI_n4 _)) rfl ?_
      dsimp only [List.set]
      refine fx_la 0 17 (v := 1186) (by decide +kernel) rfl (by decide +kernel) ?_
      refine fx_gi 1186 148 12 20 (by decide +kernel) ?_
      try simp only [fu_app, fcy_app, Nat.reduceEqDiff, and_true, and_false, false_and, true_and, if_true, if_false, ite_true, ite_false, reduceIte, Int.reduceToNat, fx_simp0]
      refine fx_ci (-1) 21 (by decide +kernel) ?_
      refine fx_ieq 25 24 (by decide +kernel) (by unfold fR; omega) (by unfold fR; omega) (fun h21 => ?_) (fun h21 => ?_)
      · refine fx_la 0 26 (v := 1186) (by decide +kernel) rfl (by decide +kernel) ?_
        refine fx_gp 1186 148 1 1194 29 (by decide +kernel) ?_
        refine fx_ci (116) 31 (by decide +kernel) ?_
        refine fx_li 1 32 (by decide +kernel) rfl ?_
        refine fx_add 33 (by decide +kernel) rfl ?_
        refine fx_dup2 34 (by decide +kernel) rfl (fI_n4 _) (by decide) ?_
        refine fx_al 1194 149 764 35 (by decide +kernel) rfl (by omega) (by omega) rfl ?_
        try simp only [fu_app, fcy_app, Nat.reduceEqDiff, and_true, and_false, false_and, true_and, if_true, if_false, ite_true, ite_false, reduceIte, Int.reduceToNat, fx_simp0]
        refine fx_ci (1) 36 (by decide +kernel) ?_
        refine fx_li 2 37 (by decide +kernel) rfl ?_
        refine fx_bin 6 38 (by decide +kernel) rfl (fun h => absurd h (by decide)) ?_
        refine fx_bin 4 39 (by decide +kernel) rfl (fun h => absurd h (by decide)) ?_
        refine fx_as 1194 149 764 40 (by decide +kernel) rfl (by omega) (by omega) rfl (by first | exact fop_R _ _ _ | (unfold fR; omega)) ?_
        refine fx_la 0 41 (v := 1186) (by decide +kernel) rfl (by decide +kernel) ?_
        refine fx_gp 1186 148 1 1194 44 (by decide +kernel) ?_
        refine fx_ci (116) 46 (by decide +kernel) ?_
        refine fx_li 2 47 (by decide +kernel) rfl ?_
        refine fx_add 48 (by decide +kernel) rfl ?_
        refine fx_dup2 49 (by decide +kernel) rfl (fI_n4 _) (by decide) ?_
        refine fx_al 1194 149 764 50 (by decide +kernel) rfl (by omega) (by omega) rfl ?_
        try simp only [fu_app, fcy_app, Nat.reduceEqDiff, and_true, and_false, false_and, true_and, if_true, if_false, ite_true, ite_false, reduceIte, Int.reduceToNat, fx_simp0]
        refine fx_ci (1) 51 (by decide +kernel) ?_
        refine fx_li 1 52 (by decide +kernel) rfl ?_
        refine fx_bin 6 53 (by decide +kernel) rfl (fun h => absurd h (by decide)) ?_
        refine fx_bin 4 54 (by decide +kernel) rfl (fun h => absurd h (by decide)) ?_
        refine fx_as 1194 149 764 55 (by decide +kernel) rfl (by omega) (by omega) rfl (by first | exact fop_R _ _ _ | (unfold fR; omega)) ?_
        refine fx_vret (by decide +kernel) ?_
        have := kq _ _ _ (by rw [cif_t p]; exact cif_t ⟨p1, p2⟩) pn.1 pn.2 pm.1 pm.2 _ (by omega) (by omega) rfl
        unfold apR at this
        simp only [fu_app, Nat.reduceEqDiff, and_true, and_false, false_and, true_and, if_true, if_false, ite_true, ite_false, reduceIte] at this
        exact this
      · refine fx_vret (by decide +kernel) ?_
        exact absurd hf h21
    · rw [fu_fu]
      refine fx_si 2 16 (by decide +kernel) (Or.inr (fI_n4 _)) rfl ?_
      dsimp only [List.set]
      refine fx_la 0 17 (v := 1186) (by decide +kernel) rfl (by decide +kernel) ?_
      refine fx_gi 1186 148 12 20 (by decide +kernel) ?_
      try simp only [fu_app, fcy_app, Nat.reduceEqDiff, and_true, and_false, false_and, true_and, if_true, if_false, ite_true, ite_false, reduceIte, Int.reduceToNat, fx_simp0]
      refine fx_ci (-1) 21 (by decide +kernel) ?_
      refine fx_ieq 25 24 (by decide +kernel) (by unfold fR; omega) (by unfold fR; omega) (fun h21 => ?_) (fun h21 => ?_)
      · exfalso; omega
      · refine fx_vret (by decide +kernel) ?_
        exact kf _ (by rw [cif_t p]; exact cif_f p1) a q1 q2
  · rw [hsk] at p
    simp only [hsk]
    refine fx_si 1 8 (by decide +kernel) (Or.inr (f_n4p (v := 1186) rfl (by decide))) rfl ?_
    dsimp only [List.set]
    refine fx_la 0 9 (v := 1186) (by decide +kernel) rfl (by decide +kernel) ?_
    refine fx_li 1 10 (by decide +kernel) rfl ?_
    refine fx_ci (8) 12 (by decide +kernel) ?_
    refine fx_c3 291 21 15 4 [7, 7] (by decide +kernel) (by decide) (by decide) (fI_n4 _) (fI_n4 _) rfl (by first | decide | omega) ?_
    refine sp_another_f (RT_fu (RT_fu h (by decide) (by decide)) (by decide) (by decide)) (by rw [fu_eq]; omega) (by rw [fu_nj (by decide), fu_eq]; omega) (by rw [fu_nj (by decide), fu_eq]; omega) (fun a' p1 p2 => fK1 ?_)
    refine fx_si 2 16 (by decide +kernel) (Or.inr (fI_n4 _)) rfl ?_
    dsimp only [List.set]
    refine fx_la 0 17 (v := 1186) (by decide +kernel) rfl (by decide +kernel) ?_
    refine fx_gi 1186 148 12 20 (by decide +kernel) ?_
    try simp only [fu_app, fcy_app, Nat.reduceEqDiff, and_true, and_false, false_and, true_and, if_true, if_false, ite_true, ite_false, reduceIte, Int.reduceToNat, fx_simp0]
    refine fx_ci (-1) 21 (by decide +kernel) ?_
    refine fx_ieq 25 24 (by decide +kernel) (by unfold fR; omega) (by unfold fR; omega) (fun h21 => ?_) (fun h21 => ?_)
    · exfalso; omega
    · refine fx_vret (by decide +kernel) ?_
      have := kf f (by rw [cif_f p]) a' p1 p2
      rw [fu_sw _ _ _ (by decide), fu_fu]
      exact this
/-- what a promise's line does -/
def apV (one other : Int) (g : Nat → Nat → Int) : Nat → Nat → Int := fu g 149 (12 + 7 * one + 4).toNat other
theorem sp_promiseLine {f : Int} (h : RT T E g) (hf : g 148 12 = -1) (h0 : 0 ≤ g 148 11) (h4 : g 148 11 ≤ E) (hsk : pSk T E (g 148 11) = f) (hp0 : 0 ≤ g 149 3) (hp1 : g 149 3 ≤ 8)
    (kq : ∀ f' x y, pTwo T E (g 149 3 - 1) f = Sum.inr (f', x, y) → 0 ≤ x → x < g 149 3 → 0 ≤ y → y < g 149 3 → ∀ a, 0 ≤ a → a ≤ E → pSk T E a = f' → Q 0 0 (apV x y (fu g 148 11 a)))
    (kf : ∀ q, pTwo T E (g 149 3 - 1) f = Sum.inl q → ∀ a, 0 ≤ a → a ≤ E → Q 0 0 (fu (fu g 148 11 a) 148 12 q)) : fx W r 5 293 0 [1186, 7, 7] [] g Q := by
  have aE := h.2.1
  have a3 := h.2.2.1
  refine fx_rg (fun hg => ?_)
  have f0 := pSk_ge T E (g 148 11)
  have f1 := pSk_le (T := T) h4
  have f2 : 0 ≤ f ∧ f ≤ E ∧ pSk T E f = f := by subst hsk; exact ⟨by omega, f1, pSk_id h4⟩
  obtain ⟨f2, f3, f4⟩ := f2
  have d0 := pDg_ge T E f
  have d1 := pDg_le (T := T) f3
  have s0 := pSk_ge T E (pDg T E f)
  have s1 := pSk_le (T := T) d1
  have d2 := pDg_ge T E (pSk T E (pDg T E f))
  have d3 := pDg_le (T := T) s1
  unfold pTwo at kq kf
  refine fx_la 0 1 (v := 1186) (by decide +kernel) rfl (by decide +kernel) ?_
  refine fx_ci (0) 2 (by decide +kernel) ?_
  refine fx_la 0 3 (v := 1186) (by decide +kernel) rfl (by decide +kernel) ?_
  refine fx_gp 1186 148 1 1194 6 (by decide +kernel) ?_
  refine fx_ci (3) 7 (by decide +kernel) ?_
  refine fx_al 1194 149 764 8 (by decide +kernel) rfl (by omega) (by omega) rfl ?_
  try simp only [fu_app, fcy_app, Nat.reduceEqDiff, and_true, and_false, false_and, true_and, if_true, if_false, ite_true, ite_false, reduceIte, Int.reduceToNat, fx_simp0]
  refine fx_ci (1) 9 (by decide +kernel) ?_
  refine fx_sub 10 (by decide +kernel) rfl ?_
  refine fx_c3 276 21 13 3 [7, 7] (by decide +kernel) (by decide) (by decide) (fI_n4 _) (fI_n4 _) rfl (by first | decide | omega) ?_
  refine sp_figures h hf h0 h4 (by unfold fR; omega) (by unfold fR; omega) (fun p => fK1 ?_) (fun p a v q1 q2 q3 => fK1 ?_)
  · rw [hsk] at p
    simp only [hsk]
    have pn := p.2.2
    refine fx_si 1 14 (by decide +kernel) (Or.inr (f_n4p (v := 1186) rfl (by decide))) rfl ?_
    dsimp only [List.set]
    refine fx_la 0 15 (v := 1186) (by decide +kernel) rfl (by decide +kernel) ?_
    refine fx_li 1 16 (by decide +kernel) rfl ?_
    refine fx_la 0 17 (v := 1186) (by decide +kernel) rfl (by decide +kernel) ?_
    refine fx_gp 1186 148 1 1194 20 (by decide +kernel) ?_
    refine fx_ci (3) 21 (by decide +kernel) ?_
    refine fx_al 1194 149 764 22 (by decide +kernel) rfl (by omega) (by omega) rfl ?_
    try simp only [fu_app, fcy_app, Nat.reduceEqDiff, and_true, and_false, false_and, true_and, if_true, if_false, ite_true, ite_false, reduceIte, Int.reduceToNat, fx_simp0]
    refine fx_c3 291 21 25 4 [7, 7] (by decide +kernel) (by decide) (by decide) (fI_n4 _) (fI_n4 _) rfl (by first | decide | omega) ?_
    refine sp_another (f := pSk T E (pDg T E f)) (RT_fu h (by decide) (by decide)) (by rw [fu_nj (by decide)]; exact hf) (by rw [fu_eq]; omega) (by rw [fu_eq]; omega) (by rw [fu_eq]) (by unfold fR; omega) (by omega) (by omega) (fun p1 p2 => fK1 ?_) (fun p1 a v q1 q2 q3 => fK1 ?_)
    · rw [fu_fu]
      have pm : _ ≤ pNu T E (pSk T E (pDg T E f)) ∧ pNu T E (pSk T E (pDg T E f)) ≤ _ := p1.2.2
      refine fx_si 2 26 (by decide +kernel) (Or.inr (fI_n4 _)) rfl ?_
      dsimp only [List.set]
      refine fx_la 0 27 (v := 1186) (by decide +kernel) rfl (by decide +kernel) ?_
      refine fx_gi 1186 148 12 30 (by decide +kernel) ?_
      try simp only [fu_app, fcy_app, Nat.reduceEqDiff, and_true, and_false, false_and, true_and, if_true, if_false, ite_true, ite_false, reduceIte, Int.reduceToNat, fx_simp0]
      refine fx_ci (-1) 31 (by decide +kernel) ?_
      refine fx_ine 41 34 (by decide +kernel) (by unfold fR; omega) (by unfold fR; omega) (fun h31 => ?_) (fun h31 => ?_)
      · refine fx_vret (by decide +kernel) ?_
        exact absurd hf h31
      · refine fx_la 0 35 (v := 1186) (by decide +kernel) rfl (by decide +kernel) ?_
        refine fx_li 1 36 (by decide +kernel) rfl ?_
        refine fx_ci (4) 37 (by decide +kernel) ?_
        refine fx_li 2 38 (by decide +kernel) rfl ?_
        refine fx_c4 288 21 41 0 [] (by decide +kernel) (by decide) (by decide) (fI_n4 _) (fI_n4 _) (fI_n4 _) rfl (by first | decide | omega) ?_
        refine sp_put (by omega) (by omega) (by decide) (by decide) (by unfold fR; omega) (fK0 ?_)
        refine fx_vret (by decide +kernel) ?_
        exact kq _ _ _ (by rw [cif_t p]; exact cif_t ⟨p1, p2⟩) pn.1 (by omega) pm.1 (by omega) _ (by omega) (by omega) rfl
    · rw [fu_fu]
      refine fx_si 2 26 (by decide +kernel) (Or.inr (fI_n4 _)) rfl ?_
      dsimp only [List.set]
      refine fx_la 0 27 (v := 1186) (by decide +kernel) rfl (by decide +kernel) ?_
      refine fx_gi 1186 148 12 30 (by decide +kernel) ?_
      try simp only [fu_app, fcy_app, Nat.reduceEqDiff, and_true, and_false, false_and, true_and, if_true, if_false, ite_true, ite_false, reduceIte, Int.reduceToNat, fx_simp0]
      refine fx_ci (-1) 31 (by decide +kernel) ?_
      refine fx_ine 41 34 (by decide +kernel) (by unfold fR; omega) (by unfold fR; omega) (fun h31 => ?_) (fun h31 => ?_)
      · refine fx_vret (by decide +kernel) ?_
        exact kf _ (by rw [cif_t p]; exact cif_f p1) a q1 q2
      · exfalso; omega
  · rw [hsk] at p
    simp only [hsk]
    refine fx_si 1 14 (by decide +kernel) (Or.inr (f_n4p (v := 1186) rfl (by decide))) rfl ?_
    dsimp only [List.set]
    refine fx_la 0 15 (v := 1186) (by decide +kernel) rfl (by decide +kernel) ?_
    refine fx_li 1 16 (by decide +kernel) rfl ?_
    refine fx_la 0 17 (v := 1186) (by decide +kernel) rfl (by decide +kernel) ?_
    refine fx_gp 1186 148 1 1194 20 (by decide +kernel) ?_
    refine fx_ci (3) 21 (by decide +kernel) ?_
    refine fx_al 1194 149 764 22 (by decide +kernel) rfl (by omega) (by omega) rfl ?_
    try simp only [fu_app, fcy_app, Nat.reduceEqDiff, and_true, and_false, false_and, true_and, if_true, if_false, ite_true, ite_false, reduceIte, Int.reduceToNat, fx_simp0]
    refine fx_c3 291 21 25 4 [7, 7] (by decide +kernel) (by decide) (by decide) (fI_n4 _) (fI_n4 _) rfl (by first | decide | omega) ?_
    refine sp_another_f (RT_fu (RT_fu h (by decide) (by decide)) (by decide) (by decide)) (by rw [fu_eq]; omega) (by rw [fu_nj (by decide), fu_eq]; omega) (by rw [fu_nj (by decide), fu_eq]; omega) (fun a' p1 p2 => fK1 ?_)
    refine fx_si 2 26 (by decide +kernel) (Or.inr (fI_n4 _)) rfl ?_
    dsimp only [List.set]
    refine fx_la 0 27 (v := 1186) (by decide +kernel) rfl (by decide +kernel) ?_
    refine fx_gi 1186 148 12 30 (by decide +kernel) ?_
    try simp only [fu_app, fcy_app, Nat.reduceEqDiff, and_true, and_false, false_and, true_and, if_true, if_false, ite_true, ite_false, reduceIte, Int.reduceToNat, fx_simp0]
    refine fx_ci (-1) 31 (by decide +kernel) ?_
    refine fx_ine 41 34 (by decide +kernel) (by unfold fR; omega) (by unfold fR; omega) (fun h31 => ?_) (fun h31 => ?_)
    · refine fx_vret (by decide +kernel) ?_
      have := kf f (by rw [cif_f p]) a' p1 p2
      rw [fu_sw _ _ _ (by decide), fu_fu]
      exact this
    · exfalso; omega
theorem sp_tells {x lo hi f : Int} (h : RT T E g) (hf : g 148 12 = -1) (h0 : 0 ≤ g 148 11) (h4 : g 148 11 ≤ E) (hsk : pSk T E (g 148 11) = f) (hx0 : 0 ≤ x) (hx1 : x ≤ 11) (hl : fR lo) (hh : fR hi)
    (kq : pN T E lo hi f → ∀ a, 0 ≤ a → a ≤ E → pSk T E a = pSk T E (pDg T E f) → Q 0 0 (fu (fu g 148 11 a) 149 x.toNat (pNu T E f)))
    (kf : ¬ pN T E lo hi f → ∀ a, 0 ≤ a → a ≤ E → Q 0 0 (fu (fu g 148 11 a) 148 12 f)) : fx W r 4 292 0 [1186, fI x, fI lo, fI hi, 7] [] g Q := by
  have aE := h.2.1
  have a3 := h.2.2.1
  have f0 := pSk_ge T E (g 148 11)
  have f1 := pSk_le (T := T) h4
  have f2 : 0 ≤ f ∧ f ≤ E ∧ pSk T E f = f := by subst hsk; exact ⟨by omega, f1, pSk_id h4⟩
  obtain ⟨f2, f3, f4⟩ := f2
  have d0 := pDg_ge T E f
  have d1 := pDg_le (T := T) f3
  refine fx_la 0 1 (v := 1186) (by decide +kernel) rfl (by decide +kernel) ?_
  refine fx_li 2 2 (by decide +kernel) rfl ?_
  refine fx_li 3 3 (by decide +kernel) rfl ?_
  refine fx_c3 276 21 6 3 [7, 7] (by decide +kernel) (by decide) (by decide) (fI_n4 _) (fI_n4 _) rfl (by first | decide | omega) ?_
  refine sp_figures h hf h0 h4 hl hh (fun p => fK1 ?_) (fun p a v q1 q2 q3 => fK1 ?_)
  · rw [hsk] at p
    simp only [hsk]
    unfold fR at hl hh
    have pn := p.2.2
    refine fx_si 4 8 (by decide +kernel) (Or.inr (fI_n4 _)) rfl ?_
    dsimp only [List.set]
    refine fx_la 0 9 (v := 1186) (by decide +kernel) rfl (by decide +kernel) ?_
    refine fx_gi 1186 148 12 12 (by decide +kernel) ?_
    try simp only [fu_app, fcy_app, Nat.reduceEqDiff, and_true, and_false, false_and, true_and, if_true, if_false, ite_true, ite_false, reduceIte, Int.reduceToNat, fx_simp0]
    refine fx_ci (-1) 13 (by decide +kernel) ?_
    rw [hf]
    refine fx_ine 24 16 (by decide +kernel) (by unfold fR; omega) (by unfold fR; omega) (fun h13 => ?_) (fun h13 => ?_)
    · refine fx_vret (by decide +kernel) ?_
      exact absurd rfl h13
    · refine fx_la 0 17 (v := 1186) (by decide +kernel) rfl (by decide +kernel) ?_
      refine fx_gp 1186 148 1 1194 20 (by decide +kernel) ?_
      refine fx_li 1 21 (by decide +kernel) rfl ?_
      refine fx_li 4 23 (by decide +kernel) rfl ?_
      refine fx_as 1194 149 764 24 (by decide +kernel) rfl (by omega) (by omega) rfl (by unfold fR; omega) ?_
      refine fx_vret (by decide +kernel) ?_
      exact kq p _ (by omega) d1 rfl
  · rw [hsk] at p
    simp only [hsk]
    refine fx_si 4 8 (by decide +kernel) (Or.inr (fI_n4 _)) rfl ?_
    dsimp only [List.set]
    refine fx_la 0 9 (v := 1186) (by decide +kernel) rfl (by decide +kernel) ?_
    refine fx_gi 1186 148 12 12 (by decide +kernel) ?_
    try simp only [fu_app, fcy_app, Nat.reduceEqDiff, and_true, and_false, false_and, true_and, if_true, if_false, ite_true, ite_false, reduceIte, Int.reduceToNat, fx_simp0]
    refine fx_ci (-1) 13 (by decide +kernel) ?_
    refine fx_ine 24 16 (by decide +kernel) (by unfold fR; omega) (by unfold fR; omega) (fun h13 => ?_) (fun h13 => ?_)
    · refine fx_vret (by decide +kernel) ?_
      exact kf p a q1 q2
    · exfalso; omega
end FXN
