/-! fx: comes home, is held to live, votes, promises: the class -/
section FHO
variable {W : ax_W} {r : Nat} {g : Nat → Nat → Int} {Q : Nat → Nat → (Nat → Nat → Int) → Prop}
theorem sp_chome {a : Int} (hr : 1 ≤ r) (ha : fR a) (hb : cBd g) (k1 : ¬ (0 ≤ a ∧ a < g 3 4) → Q 4 0 g)
    (k2 : ∀ p : Nat, a = p → (p : Int) < g 3 4 → ¬ ((g 17 p ≠ -1 ∧ fbt (g 16 7) p ≠ 1) ∧ g 17 p = 0) → Q 6 0 g)
    (k3 : ∀ p : Nat, a = p → (p : Int) < g 3 4 → g 17 p = 0 → fbt (g 16 7) p ≠ 1 → ∀ i : Nat, i < 12 → i = ((g 0 17).toNat + 1) % 12 → Q 1 (fI (if 9999 < g 16 8 + g 4 p then 9999 else g 16 8 + g 4 p)) (fu (fu (fu (cNote 16 (cRem g i) p 2 0) 17 p (-1)) 20 p 0) 16 8 (if 9999 < g 16 8 + g 4 p then 9999 else g 16 8 + g 4 p))) : fx W r 2 155 0 [2, fI a] [] g Q := by
  obtain ⟨b0, bn, bc, b5, b6, b9, b8, bw, bp⟩ := hb
  refine fx_rg (fun hg => ?_)
  refine fx_la 0 1 (v := 2) (by decide +kernel) rfl (by decide +kernel) ?_
  refine fx_li 1 2 (by decide +kernel) rfl ?_
  refine fx_c2 123 21 5 0 [] (by decide +kernel) (by decide) (by decide) (fI_n4 _) rfl (by first | decide | omega) ?_
  refine sp_cneedPerson hr ha b0.1 b0.2 (fun t => fK0 ?_) (fun t => fK2 (k := 2) ?_)
  · obtain ⟨p, rfl⟩ := Int.eq_ofNat_of_zero_le t.1
    have hp : p < 8 := by omega
    have bwp := bw p hp
    have bpp := bp p hp
    refine fx_la 0 6 (v := 2) (by decide +kernel) rfl (by decide +kernel) ?_
    refine fx_gp 2 0 3 130 9 (by decide +kernel) ?_
    refine fx_li 1 10 (by decide +kernel) rfl ?_
    refine fx_c2 55 21 13 1 [] (by decide +kernel) (by decide) (by decide) (fI_n4 _) rfl (by first | decide | omega) ?_
    refine sp_cisAway_table hp (fun u => fK1 ?_) (fun u => fK1 ?_)
    · refine fx_zeq 28 16 (by decide +kernel) (by unfold fR; omega) (fun hc => absurd hc (by decide)) (fun _ => ?_)
      refine fx_la 0 17 (v := 2) (by decide +kernel) rfl (by decide +kernel) ?_
      refine fx_gp 2 0 3 130 20 (by decide +kernel) ?_
      refine fx_gp 130 16 0 138 23 (by decide +kernel) ?_
      refine fx_li 1 24 (by decide +kernel) rfl ?_
      refine fx_al 138 17 8 25 (by decide +kernel) rfl (by omega) (by omega) rfl ?_
      try simp only [fu_app, fcy_app, Nat.reduceEqDiff, and_true, and_false, false_and, true_and, if_true, if_false, ite_true, ite_false, reduceIte, Int.reduceToNat, fx_simp0]
      rw [show ((p : Int)).toNat = p from rfl]
      refine fx_zeq 38 28 (by decide +kernel) (by unfold fR; omega) (fun h25 => ?_) (fun h25 => ?_)
      · refine fx_la 0 39 (v := 2) (by decide +kernel) rfl (by decide +kernel) ?_
        refine fx_c1 152 21 42 1 [] (by decide +kernel) (by decide) rfl (by first | decide | omega) ?_
        refine sp_crem bn.1 bn.2 bc.1 bc.2 (fun i hi hi2 => fK0 ?_)
        have k3 := k3 p rfl (by omega) h25 u.2 i hi hi2
        have eG : ∀ c j, 3 ≤ c → c < 76 → cRem g i c j = g c j := fun c j h1 h2 => cRem_ne hi (fun t => by omega) (Or.inl h2)
        generalize cRem g i = G at k3 eG ⊢
        refine fx_la 0 43 (v := 2) (by decide +kernel) rfl (by decide +kernel) ?_
        refine fx_gp 2 0 3 130 46 (by decide +kernel) ?_
        refine fx_li 1 47 (by decide +kernel) rfl ?_
        refine fx_ci (2) 48 (by decide +kernel) ?_
        refine fx_ci (0) 49 (by decide +kernel) ?_
        refine fx_c4 153 21 52 0 [] (by decide +kernel) (by decide) (by decide) (fI_n4 _) (fI_n4 _) (fI_n4 _) rfl (by first | decide | omega) ?_
        refine sp_cnote_table (by rw [eG _ _ (by decide) (by decide)]; exact b5.1) (by rw [eG _ _ (by decide) (by decide)]; exact b5.2) (by rw [eG _ _ (by decide) (by decide)]; exact b6.1) (by rw [eG _ _ (by decide) (by decide)]; exact b6.2) (by rw [eG _ _ (by decide) (by decide)]; exact b9.1) (by rw [eG _ _ (by decide) (by decide)]; exact b9.2) (by omega) (by omega) (by decide) (by decide) (by decide) (by decide) (fK0 ?_)
        refine fx_la 0 53 (v := 2) (by decide +kernel) rfl (by decide +kernel) ?_
        refine fx_gp 2 0 3 130 56 (by decide +kernel) ?_
        refine fx_li 1 57 (by decide +kernel) rfl ?_
        refine fx_c2 156 21 60 0 [] (by decide +kernel) (by decide) (by decide) (fI_n4 _) rfl (by first | decide | omega) ?_
        refine sp_cbringHome_table hp (fK0 ?_)
        refine fx_la 0 61 (v := 2) (by decide +kernel) rfl (by decide +kernel) ?_
        refine fx_gp 2 0 3 130 64 (by decide +kernel) ?_
        refine fx_la 0 65 (v := 2) (by decide +kernel) rfl (by decide +kernel) ?_
        refine fx_gp 2 0 1 26 68 (by decide +kernel) ?_
        refine fx_gp 26 3 0 34 71 (by decide +kernel) ?_
        refine fx_li 1 72 (by decide +kernel) rfl ?_
        refine fx_al 34 4 8 73 (by decide +kernel) rfl (by omega) (by omega) rfl ?_
        try simp only [fu_app, fcy_app, Nat.reduceEqDiff, and_true, and_false, false_and, true_and, if_true, if_false, ite_true, ite_false, reduceIte, Int.reduceToNat, fx_simp0]
        rw [show ((p : Int)).toNat = p from rfl, cNote_ne (by omega) (by decide), eG _ _ (by decide) (by decide)]
        have e8 : fu (fu (cNote 16 G p 2 0) 17 p (-1)) 20 p 0 16 8 = g 16 8 := by rw [fu_nc (by decide), fu_nc (by decide), cNote_ne (by decide) (by decide), eG _ _ (by decide) (by decide)]
        refine fx_c2 157 21 76 1 [] (by decide +kernel) (by decide) (by decide) (fI_n4 _) rfl (by first | decide | omega) ?_
        refine sp_caddIron (by rw [e8]; exact b8.1) (by rw [e8]; exact b8.2) bwp.1 bwp.2 (fK0 ?_)
        rw [e8]
        refine fx_la 0 77 (v := 2) (by decide +kernel) rfl (by decide +kernel) ?_
        refine fx_gp 2 0 3 130 80 (by decide +kernel) ?_
        refine fx_gi 130 16 8 83 (by decide +kernel) ?_
        try simp only [fu_app, fcy_app, Nat.reduceEqDiff, and_true, and_false, false_and, true_and, if_true, if_false, ite_true, ite_false, reduceIte, Int.reduceToNat, fx_simp0]
        refine fx_ret (by decide +kernel) ?_
        exact k3
      · refine fx_throw 4 (by decide +kernel) rfl (by omega) ?_
        exact k2 p rfl (by omega) (fun q => h25 q.2)
    · refine fx_zeq 28 16 (by decide +kernel) (by unfold fR; omega) (fun _ => ?_) (fun hc => absurd hc (by decide))
      refine fx_throw 4 (by decide +kernel) rfl (by omega) ?_
      exact k2 p rfl (by omega) (fun q => u q.1)
  · exact k1 t
theorem sp_cvote {a b : Int} (hr : 1 ≤ r) (ha : fR a) (hbr : fR b) (hb : cBd g) (k1 : ¬ (0 ≤ a ∧ a < g 3 4) → Q 4 0 g)
    (k2 : 0 ≤ a ∧ a < g 3 4 → ¬ (0 ≤ b ∧ b ≤ 20) → Q 2 0 g)
    (k3 : ∀ p : Nat, a = p → (p : Int) < g 3 4 → 0 ≤ b → b ≤ 20 → ∀ i : Nat, i < 12 → i = ((g 0 17).toNat + 1) % 12 → Q 1 (fI (g 18 p)) (fu (cRem g i) 18 p b)) : fx W r 2 172 0 [2, fI a, fI b, 7] [] g Q := by
  obtain ⟨b0, bn, bc, b5, b6, b9, b8, bw, bp⟩ := hb
  refine fx_rg (fun hg => ?_)
  refine fx_la 0 1 (v := 2) (by decide +kernel) rfl (by decide +kernel) ?_
  refine fx_li 1 2 (by decide +kernel) rfl ?_
  refine fx_c2 123 21 5 0 [] (by decide +kernel) (by decide) (by decide) (fI_n4 _) rfl (by first | decide | omega) ?_
  refine sp_cneedPerson hr ha b0.1 b0.2 (fun t => fK0 ?_) (fun t => fK2 (k := 2) ?_)
  · obtain ⟨p, rfl⟩ := Int.eq_ofNat_of_zero_le t.1
    have hp : p < 8 := by omega
    have rv := hgA hg 8 (c := 18) (j := p) (by decide +kernel) (by omega)
    unfold fR at rv
    refine fx_la 0 6 (v := 2) (by decide +kernel) rfl (by decide +kernel) ?_
    refine fx_li 2 7 (by decide +kernel) rfl ?_
    refine fx_ci (0) 8 (by decide +kernel) ?_
    refine fx_ci (20) 10 (by decide +kernel) ?_
    refine fx_c4 173 21 13 0 [] (by decide +kernel) (by decide) (by decide) (fI_n4 _) (fI_n4 _) (fI_n4 _) rfl (by first | decide | omega) ?_
    refine sp_cneedWithin hr hbr (by unfold fR; omega) (by unfold fR; omega) (fun u => fK0 ?_) (fun u => fK2 (k := 0) ?_)
    · refine fx_la 0 14 (v := 2) (by decide +kernel) rfl (by decide +kernel) ?_
      refine fx_c1 152 21 17 1 [] (by decide +kernel) (by decide) rfl (by first | decide | omega) ?_
      refine sp_crem bn.1 bn.2 bc.1 bc.2 (fun i hi hi2 => fK0 ?_)
      have k3 := k3 p rfl (by omega) u.1 u.2 i hi hi2
      have eG : ∀ c j, 3 ≤ c → c < 76 → cRem g i c j = g c j := fun c j h1 h2 => cRem_ne hi (fun t => by omega) (Or.inl h2)
      generalize cRem g i = G at k3 eG ⊢
      refine fx_la 0 18 (v := 2) (by decide +kernel) rfl (by decide +kernel) ?_
      refine fx_gp 2 0 3 130 21 (by decide +kernel) ?_
      refine fx_gp 130 16 1 146 24 (by decide +kernel) ?_
      refine fx_li 1 25 (by decide +kernel) rfl ?_
      refine fx_al 146 18 8 26 (by decide +kernel) rfl (by omega) (by omega) rfl ?_
      try simp only [fu_app, fcy_app, Nat.reduceEqDiff, and_true, and_false, false_and, true_and, if_true, if_false, ite_true, ite_false, reduceIte, Int.reduceToNat, fx_simp0]
      rw [show ((p : Int)).toNat = p from rfl, eG _ _ (by decide) (by decide)]
      refine fx_si 3 27 (by decide +kernel) (Or.inr (fI_n4 _)) rfl ?_
      dsimp only [List.set]
      refine fx_la 0 28 (v := 2) (by decide +kernel) rfl (by decide +kernel) ?_
      refine fx_gp 2 0 3 130 31 (by decide +kernel) ?_
      refine fx_gp 130 16 1 146 34 (by decide +kernel) ?_
      refine fx_li 1 35 (by decide +kernel) rfl ?_
      refine fx_li 2 36 (by decide +kernel) rfl ?_
      refine fx_as 146 18 8 37 (by decide +kernel) rfl (by omega) (by omega) rfl (by unfold fR; omega) ?_
      refine fx_li 3 38 (by decide +kernel) rfl ?_
      refine fx_ret (by decide +kernel) ?_
      exact k3
    · exact k2 t u
  · exact k1 t
theorem sp_cpromise {a b : Int} (hr : 1 ≤ r) (ha : fR a) (hbr : fR b) (hb : cBd g) (k1 : ¬ ((0 ≤ a ∧ a < g 3 4) ∧ (b = -1 ∨ (0 ≤ b ∧ b < g 3 4))) → Q 4 0 g)
    (k2 : 0 ≤ a ∧ a < g 3 4 → a = b → Q 2 0 g)
    (k3 : ∀ p : Nat, a = p → (p : Int) < g 3 4 → (b = -1 ∨ (0 ≤ b ∧ b < g 3 4)) → a ≠ b → ∀ i : Nat, i < 12 → i = ((g 0 17).toNat + 1) % 12 → Q 1 (fI (g 19 p)) (fu (cRem g i) 19 p b)) : fx W r 2 175 0 [2, fI a, fI b, 7] [] g Q := by
  obtain ⟨b0, bn, bc, b5, b6, b9, b8, bw, bp⟩ := hb
  refine fx_rg (fun hg => ?_)
  have hbr2 := hbr
  have ha2 := ha
  unfold fR at hbr2 ha2
  have fin : 0 ≤ a ∧ a < g 3 4 → (b = -1 ∨ (0 ≤ b ∧ b < g 3 4)) → fx W r 2 175 15 [2, fI a, fI b, 7] [] g Q := fun t q => by
    obtain ⟨p, rfl⟩ := Int.eq_ofNat_of_zero_le t.1
    have hp : p < 8 := by omega
    have rv := hgA hg 8 (c := 19) (j := p) (by decide +kernel) (by omega)
    unfold fR at rv
    refine fx_la 0 16 (v := 2) (by decide +kernel) rfl (by decide +kernel) ?_
    refine fx_li 1 17 (by decide +kernel) rfl ?_
    refine fx_li 2 18 (by decide +kernel) rfl ?_
    refine fx_c3 148 21 21 0 [] (by decide +kernel) (by decide) (by decide) (fI_n4 _) (fI_n4 _) rfl (by first | decide | omega) ?_
    refine sp_needTwo hr ha hbr (fun u => fK0 ?_) (fun u => fK2 (k := 0) ?_)
    · refine fx_la 0 22 (v := 2) (by decide +kernel) rfl (by decide +kernel) ?_
      refine fx_c1 152 21 25 1 [] (by decide +kernel) (by decide) rfl (by first | decide | omega) ?_
      refine sp_crem bn.1 bn.2 bc.1 bc.2 (fun i hi hi2 => fK0 ?_)
      have k3 := k3 p rfl (by omega) q u i hi hi2
      have eG : ∀ c j, 3 ≤ c → c < 76 → cRem g i c j = g c j := fun c j h1 h2 => cRem_ne hi (fun t => by omega) (Or.inl h2)
      generalize cRem g i = G at k3 eG ⊢
      refine fx_la 0 26 (v := 2) (by decide +kernel) rfl (by decide +kernel) ?_
      refine fx_gp 2 0 3 130 29 (by decide +kernel) ?_
      refine fx_gp 130 16 2 154 32 (by decide +kernel) ?_
      refine fx_li 1 33 (by decide +kernel) rfl ?_
      refine fx_al 154 19 8 34 (by decide +kernel) rfl (by omega) (by omega) rfl ?_
      try simp only [fu_app, fcy_app, Nat.reduceEqDiff, and_true, and_false, false_and, true_and, if_true, if_false, ite_true, ite_false, reduceIte, Int.reduceToNat, fx_simp0]
      rw [show ((p : Int)).toNat = p from rfl, eG _ _ (by decide) (by decide)]
      refine fx_si 3 35 (by decide +kernel) (Or.inr (fI_n4 _)) rfl ?_
      dsimp only [List.set]
      refine fx_la 0 36 (v := 2) (by decide +kernel) rfl (by decide +kernel) ?_
      refine fx_gp 2 0 3 130 39 (by decide +kernel) ?_
      refine fx_gp 130 16 2 154 42 (by decide +kernel) ?_
      refine fx_li 1 43 (by decide +kernel) rfl ?_
      refine fx_li 2 44 (by decide +kernel) rfl ?_
      refine fx_as 154 19 8 45 (by decide +kernel) rfl (by omega) (by omega) rfl (by unfold fR; omega) ?_
      refine fx_li 3 46 (by decide +kernel) rfl ?_
      refine fx_ret (by decide +kernel) ?_
      exact k3
    · exact k2 t u
  refine fx_la 0 1 (v := 2) (by decide +kernel) rfl (by decide +kernel) ?_
  refine fx_li 1 2 (by decide +kernel) rfl ?_
  refine fx_c2 123 21 5 0 [] (by decide +kernel) (by decide) (by decide) (fI_n4 _) rfl (by first | decide | omega) ?_
  refine sp_cneedPerson hr ha b0.1 b0.2 (fun t => fK0 ?_) (fun t => fK2 (k := 2) ?_)
  · refine fx_li 2 6 (by decide +kernel) rfl ?_
    refine fx_ci (-1) 7 (by decide +kernel) ?_
    refine fx_ieq 15 10 (by decide +kernel) (by unfold fR; omega) (by unfold fR; omega) (fun h7 => ?_) (fun h7 => ?_)
    · exact fin t (Or.inl (by omega))
    · refine fx_la 0 11 (v := 2) (by decide +kernel) rfl (by decide +kernel) ?_
      refine fx_li 2 12 (by decide +kernel) rfl ?_
      refine fx_c2 123 21 15 0 [] (by decide +kernel) (by decide) (by decide) (fI_n4 _) rfl (by first | decide | omega) ?_
      refine sp_cneedPerson hr hbr b0.1 b0.2 (fun u => fK0 ?_) (fun u => fK2 (k := 2) ?_)
      · exact fin t (Or.inr u)
      · exact k1 (by omega)
  · exact k1 (fun q => t q.1)
theorem sp_cseed {b : Int} (hbr : fR b) (kq : Q 1 (fI (g 16 10)) (fu g 16 10 b)) : fx W r 0 61 0 [2, fI b, 7] [] g Q := by
  refine fx_rg (fun hg => ?_)
  unfold fR at hbr
  refine fx_la 0 1 (v := 2) (by decide +kernel) rfl (by decide +kernel) ?_
  refine fx_gp 2 0 3 130 4 (by decide +kernel) ?_
  refine fx_gi 130 16 10 7 (by decide +kernel) ?_
  refine fx_si 2 8 (by decide +kernel) (Or.inr (fI_n4 _)) rfl ?_
  dsimp only [List.set]
  refine fx_la 0 9 (v := 2) (by decide +kernel) rfl (by decide +kernel) ?_
  refine fx_gp 2 0 3 130 12 (by decide +kernel) ?_
  refine fx_li 1 13 (by decide +kernel) rfl ?_
  refine fx_pi 130 16 10 16 (by decide +kernel) (by unfold fR; omega) ?_
  refine fx_li 2 17 (by decide +kernel) rfl ?_
  refine fx_ret (by decide +kernel) ?_
  exact kq
end FHO
