/-! fx: nights: the reference -/
section FIJ
variable {W : ax_W} {r : Nat} {G : Nat → Nat → Int} {t : Nat → Int} {Q : Nat → Nat → (Nat → Nat → Int) → Prop} {segs : List (List Int × Int × Int)}
theorem sp_misAwayF {p : Nat} (hp : p < 8) (k1 : t (12 + 7 * p) ≠ -1 ∧ t (17 + 7 * p) ≠ 1 → Q 1 (fI 1) (frow G t)) (k2 : ¬ (t (12 + 7 * p) ≠ -1 ∧ t (17 + 7 * p) ≠ 1) → Q 1 (fI 0) (frow G t)) : fx W r 2 301 0 [1186, fI (p : Int)] [] (frow G t) Q := by
  refine sp_misAway hp (fun u => ?_) (fun u => ?_)
  · rw [frow_m, frow_m] at u; exact k1 u
  · rw [frow_m, frow_m] at u; exact k2 u
theorem sp_mnight_1 {d : Int} {R : Nat → Int} {n3 : Nat} (h8 : n3 ≤ 8) (kq : ∀ z : Int, fx W r 38 326 35 [1186, fI d, fI 1, fI z, 7] [] (frow G R) Q) : ∀ (l p : Nat) (t : Nat → Int), p + l = n3 → NI t → t 3 = (n3 : Int) → wanL l p t = R → fx W r 38 326 2 [1186, fI d, fI 1, fI (p : Int), 7] [] (frow G t) Q
  | l, p, t, hl, h, h3, e => by
    refine fx_li 3 3 (by decide +kernel) rfl ?_
    refine fx_la 0 4 (v := 1186) (by decide +kernel) rfl (by decide +kernel) ?_
    refine fx_gp 1186 148 1 1194 7 (by decide +kernel) ?_
    refine fx_ci (3) 8 (by decide +kernel) ?_
    refine fx_al 1194 149 764 9 (by decide +kernel) rfl (by omega) (by omega) rfl ?_
    try simp only [fu_app, fcy_app, Nat.reduceEqDiff, and_true, and_false, false_and, true_and, if_true, if_false, ite_true, ite_false, reduceIte, Int.reduceToNat, fx_simp0]
    rw [frow_m, h3]
    refine fx_ige 35 12 (by decide +kernel) (by unfold fR; omega) (by unfold fR; omega) (fun h9 => ?_) (fun h9 => ?_)
    · have e0 : l = 0 := by omega
      subst e0
      have e : t = R := e
      subst e
      exact kq _
    · obtain ⟨l', rfl⟩ : ∃ l', l = l' + 1 := ⟨l - 1, by omega⟩
      have hp : p < 8 := by omega
      have e : wanL l' (p + 1) (wan1 t p) = R := e
      have ok := wan1_ok (p := p) h hp
      have k3 : wan1 t p 3 = (n3 : Int) := by rw [ok.2 3 (by decide)]; exact h3
      refine fx_li 2 13 (by decide +kernel) rfl ?_
      refine fx_zeq 35 16 (by decide +kernel) (by unfold fR; omega) (fun hc => absurd hc (by decide)) (fun _ => ?_)
      refine fx_la 0 17 (v := 1186) (by decide +kernel) rfl (by decide +kernel) ?_
      refine fx_li 3 18 (by decide +kernel) rfl ?_
      refine fx_c2 301 21 21 2 [] (by decide +kernel) (by decide) (by decide) (fI_n4 _) rfl (by first | decide | omega) ?_
      refine sp_misAwayF hp (fun u => fK1 ?_) (fun u => fK1 ?_)
      · refine fx_zeq 29 24 (by decide +kernel) (by unfold fR; omega) (fun hc => absurd hc (by decide)) (fun _ => ?_)
        refine fx_la 0 25 (v := 1186) (by decide +kernel) rfl (by decide +kernel) ?_
        refine fx_li 3 26 (by decide +kernel) rfl ?_
        refine fx_c2 327 21 29 2 [7] (by decide +kernel) (by decide) (by decide) (fI_n4 _) rfl (by first | decide | omega) ?_
        refine sp_mwanders h.1 hp u.1 (fK0 ?_)
        have ew : wan1 t p = wanT t p := if_pos u
        rw [← ew]
        refine fx_inc 3 32 (1) (by decide +kernel) rfl (Or.inr (fI_n4 _)) rfl ?_
        dsimp only [List.set]
        refine fx_go 2 (by decide +kernel) ?_
        exact sp_mnight_1 h8 kq l' (p + 1) _ (by omega) ok.1 k3 e
      · refine fx_zeq 29 24 (by decide +kernel) (by unfold fR; omega) (fun _ => ?_) (fun hc => absurd hc (by decide))
        refine fx_inc 3 32 (1) (by decide +kernel) rfl (Or.inr (fI_n4 _)) rfl ?_
        dsimp only [List.set]
        refine fx_go 2 (by decide +kernel) ?_
        have ew : wan1 t p = t := if_neg u
        rw [ew] at e
        exact sp_mnight_1 h8 kq l' (p + 1) t (by omega) h h3 e
theorem sp_mnight_2 {d x2 N : Int} {R : Nat → Int} {n3 : Nat} {G : Nat → Nat → Int} (h8 : n3 ≤ 8) (d0 : 0 ≤ d) (dR : fR d) (kq : ∀ (z : Int) (G' : Nat → Nat → Int), rN G G' → fx W r 38 326 89 [1186, fI d, fI x2, fI N, fI z] [] (frow G' R) Q) : ∀ (l p : Nat) (t : Nat → Int) (n : Int) (G' : Nat → Nat → Int), p + l = n3 → NI t → LwR t segs → t 3 = (n3 : Int) → d < t 4 → 0 ≤ n → n ≤ p → rN G G' → eaL segs d l p t = R → eaN segs d l p t n = N → fx W r 38 326 40 [1186, fI d, fI x2, fI n, fI (p : Int)] [] (frow G' t) Q
  | l, p, t, n, G', hl, h, hw, h3, h4, n0, n1, hG, e, en => by
    unfold fR at dR
    refine fx_li 4 42 (by decide +kernel) rfl ?_
    refine fx_la 0 43 (v := 1186) (by decide +kernel) rfl (by decide +kernel) ?_
    refine fx_gp 1186 148 1 1194 46 (by decide +kernel) ?_
    refine fx_ci (3) 47 (by decide +kernel) ?_
    refine fx_al 1194 149 764 48 (by decide +kernel) rfl (by omega) (by omega) rfl ?_
    try simp only [fu_app, fcy_app, Nat.reduceEqDiff, and_true, and_false, false_and, true_and, if_true, if_false, ite_true, ite_false, reduceIte, Int.reduceToNat, fx_simp0]
    rw [frow_m, h3]
    refine fx_ige 89 51 (by decide +kernel) (by unfold fR; omega) (by unfold fR; omega) (fun h48 => ?_) (fun h48 => ?_)
    · have e0 : l = 0 := by omega
      subst e0
      have e : t = R := e
      have en : n = N := en
      subst e en
      exact kq _ _ hG
    · obtain ⟨l', rfl⟩ : ∃ l', l = l' + 1 := ⟨l - 1, by omega⟩
      have hp : p < 8 := by omega
      have e : eaL segs d l' (p + 1) (ea1 segs d t p) = R := e
      have en : eaN segs d l' (p + 1) (ea1 segs d t p) (if (t (12 + 7 * p) ≠ -1 ∧ t (17 + 7 * p) ≠ 1) ∧ eV t segs p (t (12 + 7 * p)) d = 0 then n + 1 else n) = N := en
      have ok := ea1_ok (segs := segs) (d := d) (p := p) h hp
      have k3 : ea1 segs d t p 3 = (n3 : Int) := by rw [ok.2 3 (by decide)]; exact h3
      have k4 : d < ea1 segs d t p 4 := by rw [ok.2 4 (by decide)]; exact h4
      have kw := hw.nf ok.2
      refine fx_li 1 52 (by decide +kernel) rfl ?_
      refine fx_cn (-1) 53 (by decide +kernel) (fun v52 c52 => ?_)
      refine fx_ieq 89 56 (by decide +kernel) (by unfold fR; omega) (by unfold fR; omega) (fun h53 => ?_) (fun h53 => ?_)
      · exfalso; omega
      · refine fx_la 0 57 (v := 1186) (by decide +kernel) rfl (by decide +kernel) ?_
        refine fx_li 4 59 (by decide +kernel) rfl ?_
        refine fx_c2 301 21 62 2 [] (by decide +kernel) (by decide) (by decide) (fI_n4 _) rfl (by first | decide | omega) ?_
        refine sp_misAwayF hp (fun u => fK1 ?_) (fun u => fK1 ?_)
        · refine fx_zeq 83 65 (by decide +kernel) (by unfold fR; omega) (fun hc => absurd hc (by decide)) (fun _ => ?_)
          refine fx_li 3 66 (by decide +kernel) rfl ?_
          refine fx_la 0 67 (v := 1186) (by decide +kernel) rfl (by decide +kernel) ?_
          refine fx_li 4 69 (by decide +kernel) rfl ?_
          refine fx_li 1 70 (by decide +kernel) rfl ?_
          refine fx_c3 331 21 73 37 [7, 7] (by decide +kernel) (by decide) (by decide) (fI_n4 _) (fI_n4 _) rfl (by first | decide | omega) ?_
          refine sp_mliesCold h.1 hw hp u.1 ⟨d0, h4⟩ (fun G2 x2 => fK1 ?_)
          have ew : ea1 segs d t p = eaT segs d t p := if_pos u
          rw [← ew]
          have hz : (if eV t segs p (t (12 + 7 * p)) d = 0 then (1 : Int) else 0) = 0 ∨ (if eV t segs p (t (12 + 7 * p)) d = 0 then (1 : Int) else 0) = 1 := if_01
          generalize ez : (if eV t segs p (t (12 + 7 * p)) d = 0 then (1 : Int) else 0) = z at *
          refine fx_zeq 80 76 (by decide +kernel) (by unfold fR; omega) (fun h73 => ?_) (fun h73 => ?_)
          · refine fx_ci (0) 81 (by decide +kernel) ?_
            refine fx_add 82 (by decide +kernel) rfl ?_
            refine fx_si 3 83 (by decide +kernel) (Or.inr (fI_n4 _)) rfl ?_
            dsimp only [List.set]
            refine fx_inc 4 86 (1) (by decide +kernel) rfl (Or.inr (fI_n4 _)) rfl ?_
            dsimp only [List.set]
            refine fx_go 40 (by decide +kernel) ?_
            rw [if_neg (fun q => by rw [if_pos q.2] at ez; omega)] at en
            rw [Int.add_zero]
            exact sp_mnight_2 h8 d0 (by unfold fR; omega) kq l' (p + 1) _ n G2 (by omega) ok.1 kw k3 k4 n0 (by omega) (hG.tr x2) e en
          · refine fx_ci (1) 77 (by decide +kernel) ?_
            refine fx_go 81 (by decide +kernel) ?_
            refine fx_add 82 (by decide +kernel) rfl ?_
            refine fx_si 3 83 (by decide +kernel) (Or.inr (fI_n4 _)) rfl ?_
            dsimp only [List.set]
            refine fx_inc 4 86 (1) (by decide +kernel) rfl (Or.inr (fI_n4 _)) rfl ?_
            dsimp only [List.set]
            refine fx_go 40 (by decide +kernel) ?_
            have e0 : eV t segs p (t (12 + 7 * p)) d = 0 := Classical.byContradiction (fun q => by rw [if_neg q] at ez; omega)
            rw [if_pos ⟨u, e0⟩] at en
            exact sp_mnight_2 h8 d0 (by unfold fR; omega) kq l' (p + 1) _ (n + 1) G2 (by omega) ok.1 kw k3 k4 (by omega) (by omega) (hG.tr x2) e en
        · refine fx_zeq 83 65 (by decide +kernel) (by unfold fR; omega) (fun _ => ?_) (fun hc => absurd hc (by decide))
          refine fx_inc 4 86 (1) (by decide +kernel) rfl (Or.inr (fI_n4 _)) rfl ?_
          dsimp only [List.set]
          refine fx_go 40 (by decide +kernel) ?_
          have ew : ea1 segs d t p = t := if_neg u
          rw [ew] at e en
          rw [if_neg (fun q => u q.1)] at en
          exact sp_mnight_2 h8 d0 (by unfold fR; omega) kq l' (p + 1) t n G' (by omega) h hw h3 h4 n0 (by omega) hG e en
theorem sp_mnight {d : Int} {dr : Bool} (h : NI t) (hw : LwR t segs) (hd : d = -1 ∨ (0 ≤ d ∧ d < t 4)) (kq : ∀ G', rN G G' → Q 1 (fI (niN segs d (niW dr t))) (frow G' (niT segs d dr t))) : fx W r 38 326 0 [1186, fI d, fI (cond dr 1 0), 7, 7] [] (frow G t) Q := by
  have b3 := h.1.1
  have b4 := h.1.2.1
  have okW := niW_ok (dr := dr) h
  have w3 : niW dr t 3 = t 3 := okW.2 3 (by decide)
  have w4 : niW dr t 4 = t 4 := okW.2 4 (by decide)
  have nb := niN_b (segs := segs) (d := d) okW.1
  have n9 := (niE_ok (segs := segs) (d := d) okW.1).1.1.2.2.2.1
  have fin : ∀ (z : Int) (x2 : Nat) (G' : Nat → Nat → Int), rN G G' → fx W r 38 326 89 [1186, fI d, x2, fI (niN segs d (niW dr t)), fI z] [] (frow G' (niE segs d (niW dr t))) Q := fun z x2 G' hG => by
    have kq := kq G' hG
    unfold niT at kq
    generalize niN segs d (niW dr t) = n at *
    generalize niE segs d (niW dr t) = t2 at *
    refine fx_la 0 90 (v := 1186) (by decide +kernel) rfl (by decide +kernel) ?_
    refine fx_gp 1186 148 1 1194 93 (by decide +kernel) ?_
    refine fx_ci (9) 95 (by decide +kernel) ?_
    refine fx_ci (9999) 98 (by decide +kernel) ?_
    refine fx_la 0 99 (v := 1186) (by decide +kernel) rfl (by decide +kernel) ?_
    refine fx_gp 1186 148 1 1194 102 (by decide +kernel) ?_
    refine fx_ci (9) 104 (by decide +kernel) ?_
    refine fx_al 1194 149 764 105 (by decide +kernel) rfl (by omega) (by omega) rfl ?_
    try simp only [fu_app, fcy_app, Nat.reduceEqDiff, and_true, and_false, false_and, true_and, if_true, if_false, ite_true, ite_false, reduceIte, Int.reduceToNat, fx_simp0]
    rw [frow_m]
    refine fx_ci (1) 106 (by decide +kernel) ?_
    refine fx_add 107 (by decide +kernel) rfl ?_
    refine fx_c2 322 22 110 0 [] (f_q22 (by decide +kernel)) (by decide) (fI_n4 _) (fI_n4 _) rfl (by first | decide | omega) ?_
    refine sp_mlesser (by unfold fR; omega) (by unfold fR; omega) (fK1 ?_)
    generalize hv : (if 9999 < t2 9 + 1 then 9999 else t2 9 + 1) = v at kq ⊢
    have hv2 : 0 ≤ v ∧ v ≤ 9999 := by rw [← hv]; split <;> omega
    refine fx_as 1194 149 764 111 (by decide +kernel) rfl (by omega) (by omega) rfl (by unfold fR; omega) ?_
    refine fx_li 3 112 (by decide +kernel) rfl ?_
    refine fx_ret (by decide +kernel) ?_
    rw [show (9 : Int).toNat = 9 from rfl, frow_fu]
    exact kq
  have mid : ∀ (z x2 : Int), fx W r 38 326 35 [1186, fI d, fI x2, fI z, 7] [] (frow G (niW dr t)) Q := fun z x2 => by
    by_cases dm : d = -1
    · have e1 : niE segs d (niW dr t) = niW dr t := if_pos dm
      have e2 : niN segs d (niW dr t) = 0 := if_pos dm
      refine fx_ci (0) 36 (by decide +kernel) ?_
      refine fx_si 3 37 (by decide +kernel) (Or.inr (fI_n4 _)) rfl ?_
      dsimp only [List.set]
      refine fx_ci (0) 38 (by decide +kernel) ?_
      refine fx_si 4 40 (by decide +kernel) (Or.inr (fI_n4 _)) rfl ?_
      dsimp only [List.set]
      refine fx_li 4 42 (by decide +kernel) rfl ?_
      refine fx_la 0 43 (v := 1186) (by decide +kernel) rfl (by decide +kernel) ?_
      refine fx_gp 1186 148 1 1194 46 (by decide +kernel) ?_
      refine fx_ci (3) 47 (by decide +kernel) ?_
      refine fx_al 1194 149 764 48 (by decide +kernel) rfl (by omega) (by omega) rfl ?_
      try simp only [fu_app, fcy_app, Nat.reduceEqDiff, and_true, and_false, false_and, true_and, if_true, if_false, ite_true, ite_false, reduceIte, Int.reduceToNat, fx_simp0]
      rw [frow_m, w3]
      refine fx_ige 89 51 (by decide +kernel) (by unfold fR; omega) (by unfold fR; omega) (fun h48 => ?_) (fun h48 => ?_)
      · have f := fin 0 (fI x2) G rN.rf
        rw [e1, e2] at f
        exact f
      · refine fx_li 1 52 (by decide +kernel) rfl ?_
        refine fx_cn (-1) 53 (by decide +kernel) (fun v52 c52 => ?_)
        refine fx_ieq 89 56 (by decide +kernel) (by unfold fR; omega) (by unfold fR; omega) (fun h53 => ?_) (fun h53 => ?_)
        · have f := fin 0 (fI x2) G rN.rf
          rw [e1, e2] at f
          exact f
        · exfalso; omega
    · have hd2 : 0 ≤ d ∧ d < t 4 := by omega
      have e1 : niE segs d (niW dr t) = eaL segs d (t 3).toNat 0 (niW dr t) := by unfold niE; rw [if_neg dm, w3]
      have e2 : niN segs d (niW dr t) = eaN segs d (t 3).toNat 0 (niW dr t) 0 := by unfold niN; rw [if_neg dm, w3]
      refine fx_ci (0) 36 (by decide +kernel) ?_
      refine fx_si 3 37 (by decide +kernel) (Or.inr (fI_n4 _)) rfl ?_
      dsimp only [List.set]
      refine fx_ci (0) 38 (by decide +kernel) ?_
      refine fx_si 4 40 (by decide +kernel) (Or.inr (fI_n4 _)) rfl ?_
      dsimp only [List.set]
      exact sp_mnight_2 (segs := segs) (G := G) (n3 := (t 3).toNat) (by omega) hd2.1 (by unfold fR; omega) (fun z G' hG => fin z _ G' hG) (t 3).toNat 0 (niW dr t) 0 G (by omega) okW.1 (hw.nf okW.2) (by rw [w3]; omega) (by rw [w4]; exact hd2.2) (by decide) (by decide) rN.rf e1.symm e2.symm
  cases dr with
  | false =>
    rw [show (cond false (1 : Int) 0) = 0 from rfl]
    refine fx_ci (0) 1 (by decide +kernel) ?_
    refine fx_si 3 2 (by decide +kernel) (Or.inr (fI_n4 _)) rfl ?_
    dsimp only [List.set]
    refine fx_li 3 3 (by decide +kernel) rfl ?_
    refine fx_la 0 4 (v := 1186) (by decide +kernel) rfl (by decide +kernel) ?_
    refine fx_gp 1186 148 1 1194 7 (by decide +kernel) ?_
    refine fx_ci (3) 8 (by decide +kernel) ?_
    refine fx_al 1194 149 764 9 (by decide +kernel) rfl (by omega) (by omega) rfl ?_
    try simp only [fu_app, fcy_app, Nat.reduceEqDiff, and_true, and_false, false_and, true_and, if_true, if_false, ite_true, ite_false, reduceIte, Int.reduceToNat, fx_simp0]
    rw [frow_m]
    refine fx_ige 35 12 (by decide +kernel) (by unfold fR; omega) (by unfold fR; omega) (fun h9 => ?_) (fun h9 => ?_)
    · exact mid _ _
    · refine fx_li 2 13 (by decide +kernel) rfl ?_
      refine fx_zeq 35 16 (by decide +kernel) (by unfold fR; omega) (fun _ => ?_) (fun hc => absurd hc (by decide))
      exact mid _ _
  | true =>
    rw [show (cond true (1 : Int) 0) = 1 from rfl]
    refine fx_ci (0) 1 (by decide +kernel) ?_
    refine fx_si 3 2 (by decide +kernel) (Or.inr (fI_n4 _)) rfl ?_
    dsimp only [List.set]
    exact sp_mnight_1 (n3 := (t 3).toNat) (by omega) (fun z => mid z 1) (t 3).toNat 0 t (by omega) h (by omega) rfl
theorem sp_mgoes_1 {N : Int} {dr : Bool} {nn : Nat} {R : Nat → Int} {G : Nat → Nat → Int} (hn : nn ≤ 60) (kq : ∀ G', rN G G' → Q 1 (fI N) (frow G' R)) : ∀ (l k : Nat) (t : Nat → Int) (a : Int) (G' : Nat → Nat → Int), k + l = nn → NI t → LwR t segs → 0 ≤ a → a ≤ 8 * k → rN G G' → goL segs dr l t = R → goN segs dr l t a = N → fx W r 39 338 5 [1186, fI (nn : Int), fI (cond dr 1 0), fI a, fI (k : Int)] [] (frow G' t) Q
  | l, k, t, a, G', hl, h, hw, a0, a1, hG, e, en => by
    have b4 := h.1.2.1
    have b9 := h.1.2.2.2.1
    have db := dsT_b h
    have hdr : (cond dr (1 : Int) 0) = 0 ∨ (cond dr (1 : Int) 0) = 1 := by cases dr <;> simp
    refine fx_li 4 7 (by decide +kernel) rfl ?_
    refine fx_li 1 8 (by decide +kernel) rfl ?_
    refine fx_ige 52 11 (by decide +kernel) (by unfold fR; omega) (by unfold fR; omega) (fun h8 => ?_) (fun h8 => ?_)
    · refine fx_li 3 53 (by decide +kernel) rfl ?_
      refine fx_ret (by decide +kernel) ?_
      have e0 : l = 0 := by omega
      subst e0
      have e : t = R := e
      have en : a = N := en
      subst e en
      exact kq _ hG
    · obtain ⟨l', rfl⟩ : ∃ l', l = l' + 1 := ⟨l - 1, by omega⟩
      have e : goL segs dr l' (niT segs (dsT t) dr t) = R := e
      have en : goN segs dr l' (niT segs (dsT t) dr t) (a + niN segs (dsT t) (niW dr t)) = N := en
      have ok := niT_ok (segs := segs) (d := dsT t) (dr := dr) h
      have nb := niN_b (segs := segs) (d := dsT t) (niW_ok (dr := dr) h).1
      refine fx_li 3 12 (by decide +kernel) rfl ?_
      refine fx_la 0 13 (v := 1186) (by decide +kernel) rfl (by decide +kernel) ?_
      refine fx_la 0 14 (v := 1186) (by decide +kernel) rfl (by decide +kernel) ?_
      refine fx_gp 1186 148 1 1194 17 (by decide +kernel) ?_
      refine fx_ci (4) 18 (by decide +kernel) ?_
      refine fx_al 1194 149 764 19 (by decide +kernel) rfl (by omega) (by omega) rfl ?_
      try simp only [fu_app, fcy_app, Nat.reduceEqDiff, and_true, and_false, false_and, true_and, if_true, if_false, ite_true, ite_false, reduceIte, Int.reduceToNat, fx_simp0]
      rw [frow_m]
      refine fx_zne 26 22 (by decide +kernel) (by unfold fR; omega) (fun h19 => ?_) (fun h19 => ?_)
      · refine fx_la 0 27 (v := 1186) (by decide +kernel) rfl (by decide +kernel) ?_
        refine fx_gp 1186 148 1 1194 30 (by decide +kernel) ?_
        refine fx_ci (9) 32 (by decide +kernel) ?_
        refine fx_al 1194 149 764 33 (by decide +kernel) rfl (by omega) (by omega) rfl ?_
        try simp only [fu_app, fcy_app, Nat.reduceEqDiff, and_true, and_false, false_and, true_and, if_true, if_false, ite_true, ite_false, reduceIte, Int.reduceToNat, fx_simp0]
        rw [frow_m]
        refine fx_la 0 34 (v := 1186) (by decide +kernel) rfl (by decide +kernel) ?_
        refine fx_gp 1186 148 1 1194 37 (by decide +kernel) ?_
        refine fx_ci (4) 38 (by decide +kernel) ?_
        refine fx_al 1194 149 764 39 (by decide +kernel) rfl (by omega) (by omega) rfl ?_
        try simp only [fu_app, fcy_app, Nat.reduceEqDiff, and_true, and_false, false_and, true_and, if_true, if_false, ite_true, ite_false, reduceIte, Int.reduceToNat, fx_simp0]
        rw [frow_m]
        refine fx_bin 10 40 (by decide +kernel) rfl (fun _ => i32_n0 (by omega) (by omega)) ?_
        have ed : dsT t = t 9 % t 4 := if_neg h19
        rw [fop_rm b9.1 (by omega) (by omega) (by omega), ← ed]
        refine fx_li 2 41 (by decide +kernel) rfl ?_
        refine fx_c3 326 21 44 38 [7, 7] (by decide +kernel) (by decide) (by decide) (fI_n4 _) (fI_n4 _) rfl (by first | decide | omega) ?_
        refine sp_mnight h hw (by omega) (fun G2 x2 => fK1 ?_)
        refine fx_add 45 (by decide +kernel) rfl ?_
        refine fx_si 3 46 (by decide +kernel) (Or.inr (fI_n4 _)) rfl ?_
        dsimp only [List.set]
        refine fx_inc 4 49 (1) (by decide +kernel) rfl (Or.inr (fI_n4 _)) rfl ?_
        dsimp only [List.set]
        refine fx_go 5 (by decide +kernel) ?_
        exact sp_mgoes_1 hn kq l' (k + 1) _ _ G2 (by omega) ok.1 (hw.nf ok.2) (by omega) (by omega) (hG.tr x2) e en
      · refine fx_cn (-1) 23 (by decide +kernel) (fun v22 c22 => ?_)
        refine fx_go 40 (by decide +kernel) ?_
        have ed : dsT t = -1 := if_pos h19
        rw [c22, ← ed]
        refine fx_li 2 41 (by decide +kernel) rfl ?_
        refine fx_c3 326 21 44 38 [7, 7] (by decide +kernel) (by decide) (by decide) (fI_n4 _) (fI_n4 _) rfl (by first | decide | omega) ?_
        refine sp_mnight h hw (by omega) (fun G2 x2 => fK1 ?_)
        refine fx_add 45 (by decide +kernel) rfl ?_
        refine fx_si 3 46 (by decide +kernel) (Or.inr (fI_n4 _)) rfl ?_
        dsimp only [List.set]
        refine fx_inc 4 49 (1) (by decide +kernel) rfl (Or.inr (fI_n4 _)) rfl ?_
        dsimp only [List.set]
        refine fx_go 5 (by decide +kernel) ?_
        exact sp_mgoes_1 hn kq l' (k + 1) _ _ G2 (by omega) ok.1 (hw.nf ok.2) (by omega) (by omega) (hG.tr x2) e en
theorem sp_mgoes {dr : Bool} {nn : Nat} (hn : nn ≤ 60) (h : NI t) (hw : LwR t segs) (kq : ∀ G', rN G G' → Q 1 (fI (goN segs dr nn t 0)) (frow G' (goL segs dr nn t))) : fx W r 39 338 0 [1186, fI (nn : Int), fI (cond dr 1 0), 7, 7] [] (frow G t) Q := by
  refine fx_ci (0) 1 (by decide +kernel) ?_
  refine fx_si 3 2 (by decide +kernel) (Or.inr (fI_n4 _)) rfl ?_
  dsimp only [List.set]
  refine fx_ci (0) 3 (by decide +kernel) ?_
  refine fx_si 4 5 (by decide +kernel) (Or.inr (fI_n4 _)) rfl ?_
  dsimp only [List.set]
  exact sp_mgoes_1 (segs := segs) (G := G) hn kq nn 0 t 0 G (by omega) h hw (by decide) (by decide) rN.rf rfl rfl
end FIJ
