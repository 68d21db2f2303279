/-! fx: who is held to be dead, bit by bit; held to live: the class -/
theorem fbt_set {D : Int} {p q : Nat} (hp : p < 8) (hq : q < 8) : fbt (fop 4 D (fop 6 1 (p : Int))) (q : Int) = if q = p then 1 else fbt D q := by
  have h1 := fbt_or D (fop 6 1 (p : Int)) hq
  have h2 := fbt_sh hp hq
  have h3 := fbt_01 (fop 4 D (fop 6 1 (p : Int))) q
  have h4 := fbt_01 D q
  by_cases e : q = p
  · rw [if_pos e]
    exact h1.mpr (Or.inr (h2.mpr e))
  · rw [if_neg e]
    have h5 : ¬ fbt (fop 6 1 (p : Int)) (q : Int) = 1 := fun t => e (h2.mp t)
    rcases h4 with h4 | h4
    · have : ¬ fbt (fop 4 D (fop 6 1 (p : Int))) (q : Int) = 1 := fun t => by
        rcases h1.mp t with t | t
        · omega
        · exact h5 t
      omega
    · rw [h1.mpr (Or.inl h4), h4]
theorem f_nsb8 : ∀ a p : Fin 8, (Int32.ofInt (fop 5 (fop 6 1 ((a.val : Nat) : Int)) (-1))).toBitVec.getLsbD p.val = !decide (p.val = a.val) := by decide +kernel
theorem fbt_clr {D : Int} {p q : Nat} (hp : p < 8) (hq : q < 8) : fbt (fop 3 D (fop 5 (fop 6 1 (p : Int)) (-1))) (q : Int) = if q = p then 0 else fbt D q := by
  rw [fbt_lsb _ hq, fbt_lsb D hq]
  have e : Int32.ofInt (fop 3 D (fop 5 (fop 6 1 (p : Int)) (-1))) = Int32.ofInt D &&& Int32.ofInt (fop 5 (fop 6 1 (p : Int)) (-1)) := by
    have e1 : fop 3 D (fop 5 (fop 6 1 (p : Int)) (-1)) = (Int32.ofInt D &&& Int32.ofInt (fop 5 (fop 6 1 (p : Int)) (-1))).toInt := rfl
    rw [e1, Int32.ofInt_toInt]
  have h := f_nsb8 ⟨p, hp⟩ ⟨q, hq⟩
  have h : (Int32.ofInt (fop 5 (fop 6 1 (p : Int)) (-1))).toBitVec.getLsbD q = !decide (q = p) := h
  rw [e, Int32.toBitVec_and, BitVec.getLsbD_and, h]
  by_cases c : q = p
  · rw [if_pos c, decide_eq_true c]
    simp
  · rw [if_neg c, decide_eq_false c]
    simp
section FHP
variable {W : ax_W} {r : Nat} {g : Nat → Nat → Int} {Q : Nat → Nat → (Nat → Nat → Int) → Prop}
theorem sp_crise {a : Int} (hr : 1 ≤ r) (ha : fR a) (hb : cBd g) (k1 : ¬ (0 ≤ a ∧ a < g 3 4) → Q 4 0 g)
    (k2 : ∀ p : Nat, a = p → (p : Int) < g 3 4 → fbt (g 16 7) p ≠ 1 → Q 6 0 g)
    (kw : ∀ p : Nat, a = p → (p : Int) < g 3 4 → fbt (g 16 7) p = 1 → 0 ≤ g 17 p)
    (k3 : ∀ p : Nat, a = p → (p : Int) < g 3 4 → fbt (g 16 7) p = 1 → ∀ i : Nat, i < 12 → i = ((g 0 17).toNat + 1) % 12 → Q 1 (fI (g 17 p)) (fu (fu (fu (cNote 16 (cRem g i) p 2 (g 17 p)) 16 7 (fop 3 (g 16 7) (fop 5 (fop 6 1 (p : Int)) (-1)))) 17 p (-1)) 20 p 0)) : fx W r 2 170 0 [2, fI a, 7] [] g Q := by
  obtain ⟨b0, bn, bc, b5, b6, b9, b8, bw, bp⟩ := hb
  refine fx_rg (fun hg => ?_)
  refine fx_la 0 1 (v := 2) (by decide +kernel) rfl (by decide +kernel) ?_
  refine fx_li 1 2 (by decide +kernel) rfl ?_
  refine fx_c2 123 21 5 0 [] (by decide +kernel) (by decide) (by decide) (fI_n4 _) rfl (by first | decide | omega) ?_
  refine sp_cneedPerson hr ha b0.1 b0.2 (fun t => fK0 ?_) (fun t => fK2 (k := 2) ?_)
  · obtain ⟨p, rfl⟩ := Int.eq_ofNat_of_zero_le t.1
    have hp : p < 8 := by omega
    have bpp := bp p hp
    have h01 := fbt_01 (g 16 7) p
    refine fx_la 0 6 (v := 2) (by decide +kernel) rfl (by decide +kernel) ?_
    refine fx_gp 2 0 3 130 9 (by decide +kernel) ?_
    refine fx_li 1 10 (by decide +kernel) rfl ?_
    refine fx_c2 44 21 13 1 [] (by decide +kernel) (by decide) (by decide) (fI_n4 _) rfl (by first | decide | omega) ?_
    refine sp_cisDead_table (fK1 ?_)
    refine fx_zne 27 16 (by decide +kernel) (by unfold fR; omega) (fun h13 => ?_) (fun h13 => ?_)
    · refine fx_la 0 28 (v := 2) (by decide +kernel) rfl (by decide +kernel) ?_
      refine fx_c1 152 21 31 1 [] (by decide +kernel) (by decide) rfl (by first | decide | omega) ?_
      have hx : fbt (g 16 7) p = 1 := by omega
      have kw := kw p rfl (by omega) hx
      refine sp_crem bn.1 bn.2 bc.1 bc.2 (fun i hi hi2 => fK0 ?_)
      have k3 := k3 p rfl (by omega) hx i hi hi2
      have eG : ∀ c j, 3 ≤ c → c < 76 → cRem g i c j = g c j := fun c j h1 h2 => cRem_ne hi (fun t => by omega) (Or.inl h2)
      generalize cRem g i = G at k3 eG ⊢
      refine fx_la 0 32 (v := 2) (by decide +kernel) rfl (by decide +kernel) ?_
      refine fx_gp 2 0 3 130 35 (by decide +kernel) ?_
      refine fx_gp 130 16 0 138 38 (by decide +kernel) ?_
      refine fx_li 1 39 (by decide +kernel) rfl ?_
      refine fx_al 138 17 8 40 (by decide +kernel) rfl (by omega) (by omega) rfl ?_
      try simp only [fu_app, fcy_app, Nat.reduceEqDiff, and_true, and_false, false_and, true_and, if_true, if_false, ite_true, ite_false, reduceIte, Int.reduceToNat, fx_simp0]
      rw [show ((p : Int)).toNat = p from rfl, eG _ _ (by decide) (by decide)]
      refine fx_si 2 41 (by decide +kernel) (Or.inr (fI_n4 _)) rfl ?_
      dsimp only [List.set]
      refine fx_la 0 42 (v := 2) (by decide +kernel) rfl (by decide +kernel) ?_
      refine fx_gp 2 0 3 130 45 (by decide +kernel) ?_
      refine fx_li 1 46 (by decide +kernel) rfl ?_
      refine fx_ci (2) 47 (by decide +kernel) ?_
      refine fx_li 2 48 (by decide +kernel) rfl ?_
      refine fx_c4 153 21 51 0 [] (by decide +kernel) (by decide) (by decide) (fI_n4 _) (fI_n4 _) (fI_n4 _) rfl (by first | decide | omega) ?_
      refine sp_cnote_table (by rw [eG _ _ (by decide) (by decide)]; exact b5.1) (by rw [eG _ _ (by decide) (by decide)]; exact b5.2) (by rw [eG _ _ (by decide) (by decide)]; exact b6.1) (by rw [eG _ _ (by decide) (by decide)]; exact b6.2) (by rw [eG _ _ (by decide) (by decide)]; exact b9.1) (by rw [eG _ _ (by decide) (by decide)]; exact b9.2) (by omega) (by omega) (by decide) (by decide) (by omega) (by omega) (fK0 ?_)
      refine fx_la 0 52 (v := 2) (by decide +kernel) rfl (by decide +kernel) ?_
      refine fx_gp 2 0 3 130 55 (by decide +kernel) ?_
      refine fx_dup 56 (by decide +kernel) rfl (by decide) ?_
      refine fx_gi 130 16 7 59 (by decide +kernel) ?_
      try simp only [fu_app, fcy_app, Nat.reduceEqDiff, and_true, and_false, false_and, true_and, if_true, if_false, ite_true, ite_false, reduceIte, Int.reduceToNat, fx_simp0]
      rw [cNote_ne (by decide) (by decide), eG _ _ (by decide) (by decide)]
      refine fx_ci (1) 60 (by decide +kernel) ?_
      refine fx_li 1 61 (by decide +kernel) rfl ?_
      refine fx_bin 6 62 (by decide +kernel) rfl (fun h => absurd h (by decide)) ?_
      refine fx_ci (-1) 63 (by decide +kernel) ?_
      refine fx_bin 5 64 (by decide +kernel) rfl (fun h => absurd h (by decide)) ?_
      refine fx_bin 3 65 (by decide +kernel) rfl (fun h => absurd h (by decide)) ?_
      refine fx_pi 130 16 7 68 (by decide +kernel) (by first | exact fop_R _ _ _ | (unfold fR; omega)) ?_
      refine fx_la 0 69 (v := 2) (by decide +kernel) rfl (by decide +kernel) ?_
      refine fx_gp 2 0 3 130 72 (by decide +kernel) ?_
      refine fx_li 1 73 (by decide +kernel) rfl ?_
      refine fx_c2 156 21 76 0 [] (by decide +kernel) (by decide) (by decide) (fI_n4 _) rfl (by first | decide | omega) ?_
      refine sp_cbringHome_table hp (fK0 ?_)
      refine fx_li 2 77 (by decide +kernel) rfl ?_
      refine fx_ret (by decide +kernel) ?_
      exact k3
    · refine fx_throw 4 (by decide +kernel) rfl (by omega) ?_
      exact k2 p rfl (by omega) (by omega)
  · exact k1 t
end FHP
