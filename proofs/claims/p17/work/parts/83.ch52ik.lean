/-! fx: nights: the class -/
theorem RHf_nf {h : Nat} {g : Nat → Nat → Int} {t t' : Nat → Int} (q : RHf h g t) (hd : g h 5 ≤ 6) (e : NF t t') : RHf h g t' := RHf_t q hd (fun k hk => e k (by unfold gHp at hk; omega))
section FIK0
variable {W : ax_W} {r : Nat} {g : Nat → Nat → Int} {Q : Nat → Nat → (Nat → Nat → Int) → Prop}
theorem sp_min9 {z : Int} (hz : fR z) (kq : Q 1 (fI (if 9999 < z then 9999 else z)) g) : fx W r 0 158 0 [fI 9999, fI z] [] g Q := by
  unfold fR at hz
  refine fx_li 0 1 (by decide +kernel) rfl ?_
  refine fx_li 1 2 (by decide +kernel) rfl ?_
  refine fx_igt 9 5 (by decide +kernel) (by unfold fR; omega) (by unfold fR; omega) (fun h2 => ?_) (fun h2 => ?_)
  · refine fx_li 1 10 (by decide +kernel) rfl ?_
    refine fx_ret (by decide +kernel) ?_
    rw [show (if 9999 < z then (9999 : Int) else z) = z by split <;> omega] at kq
    exact kq
  · refine fx_li 0 6 (by decide +kernel) rfl ?_
    refine fx_go 10 (by decide +kernel) ?_
    refine fx_ret (by decide +kernel) ?_
    rw [show (if 9999 < z then (9999 : Int) else z) = 9999 by split <;> omega] at kq
    exact kq
end FIK0
/-- where a night of the table table stands -/
def fTF_table (g0 g : Nat → Nat → Int) : Prop := ∀ c j, ¬ (16 ≤ c ∧ c ≤ 21) → c ≠ 14 → c ≠ 15 → g c j = g0 c j
/-- what is given ahead of it -/
def CN_table (g0 : Nat → Nat → Int) (t0 : Nat → Int) (segs : List (List Int × Int × Int)) : Prop := RHf 3 g0 t0 ∧ g0 3 5 ≤ 6 ∧ LwL g0 segs ∧ LwR t0 segs
def CT_table (g0 : Nat → Nat → Int) (t0 : Nat → Int) (g : Nat → Nat → Int) (t : Nat → Int) : Prop := RTb 16 g t ∧ fTF_table g0 g ∧ NI t ∧ NF t0 t
theorem fTF_table.rf {g : Nat → Nat → Int} : fTF_table g g := fun _ _ _ _ _ => rfl
theorem fTF_table.u {g0 g : Nat → Nat → Int} {c j : Nat} {z : Int} (h : fTF_table g0 g) (hc : 16 ≤ c ∧ c ≤ 21) : fTF_table g0 (fu g c j z) := fun c' j' a b d => by rw [fu_nc (by omega)]; exact h c' j' a b d
theorem fTF_table.fs {g0 g g' : Nat → Nat → Int} (h : fTF_table g0 g) (x : fFS g g') : fTF_table g0 g' := fun c' j' a b d => by rw [x c' j' b d]; exact h c' j' a b d
theorem fTF_table.nt {g0 g : Nat → Nat → Int} {p k w : Int} (h : fTF_table g0 g) : fTF_table g0 (cNote 16 g p k w) := fun c' j' a b d => by
  rw [cNote_ne (by omega) (by omega)]
  exact h c' j' a b d
theorem CT_table.fs {g0 g g' : Nat → Nat → Int} {t0 t : Nat → Int} (h : CT_table g0 t0 g t) (x : fFS g g') : CT_table g0 t0 g' t := ⟨RTb_cg h.1 (fun j _ _ => x _ _ (by decide) (by decide)) (fun k j _ _ => x _ _ (by omega) (by omega)) (fun _ _ => rfl), h.2.1.fs x, h.2.2⟩
theorem CT_table.H {g0 g : Nat → Nat → Int} {t0 t : Nat → Int} {segs : List (List Int × Int × Int)} (h : CT_table g0 t0 g t) (n : CN_table g0 t0 segs) : RHf 3 g t ∧ LwL g segs ∧ LwR t segs := by
  obtain ⟨n1, n2, n3, n4⟩ := n
  obtain ⟨h1, h2, h3, h4⟩ := h
  have q : RHf 3 g t0 := RHf_eq n1 (fun j _ _ => h2 _ _ (by decide) (by decide) (by decide)) (fun i j i1 i2 => h2 _ _ (by omega) (by omega) (by omega))
  exact ⟨RHf_nf q (by rw [h2 _ _ (by decide) (by decide) (by decide)]; exact n2) h4, n3.cg (h2 _ _ (by decide) (by decide) (by decide)) (fun i j i1 i2 => h2 _ _ (by omega) (by omega) (by omega)), n4.nf h4⟩
section FIK_table
variable {W : ax_W} {r : Nat} {g0 : Nat → Nat → Int} {t0 R : Nat → Int} {Q : Nat → Nat → (Nat → Nat → Int) → Prop} {segs : List (List Int × Int × Int)}
theorem sp_cawayR_table {g : Nat → Nat → Int} {t : Nat → Int} {p : Nat} (h : RTf 16 g t) (hp : p < 8) (k1 : t (12 + 7 * p) ≠ -1 ∧ t (17 + 7 * p) ≠ 1 → Q 1 (fI 1) g) (k2 : ¬ (t (12 + 7 * p) ≠ -1 ∧ t (17 + 7 * p) ≠ 1) → Q 1 (fI 0) g) : fx W r 1 55 0 [130, fI (p : Int)] [] g Q := by
  have e1 : g 17 p = t (12 + 7 * p) := h.1 p hp
  have e2 : fbt (g 16 7) p = t (17 + 7 * p) := h.2.2.2.2.1 p hp
  refine sp_cisAway_table hp (fun u => ?_) (fun u => ?_)
  · rw [e1, e2] at u; exact k1 u
  · rw [e1, e2] at u; exact k2 u
theorem sp_cwander_1_table (hn : CN_table g0 t0 segs) (kq : ∀ g', CT_table g0 t0 g' R → Q 0 0 g') : ∀ (l p : Nat) (t : Nat → Int) (g : Nat → Nat → Int) (x3 x4 : Nat), (p + l : Nat) = (t 3).toNat → CT_table g0 t0 g t → wanL l p t = R → fx W r 2 162 2 [346, 130, fI (p : Int), x3, x4] [] g Q
  | l, p, t, g, x3, x4, hl, h, e => by
    obtain ⟨hH, -, -⟩ := h.H hn
    have b3 := h.2.2.1.1.1
    have ep : g 3 4 = t 3 := hH.1
    refine fx_rg (fun hg => ?_)
    have rwk := hg 3 8 (by decide) (by decide +kernel) (by decide +kernel)
    have ewk : g 3 8 = t 6 := hH.2.2.2.2.1
    rw [ewk] at rwk
    unfold fR at rwk
    refine fx_li 2 3 (by decide +kernel) rfl ?_
    refine fx_la 0 4 (v := 346) (by decide +kernel) rfl (by decide +kernel) ?_
    refine fx_gp 346 43 0 26 7 (by decide +kernel) ?_
    refine fx_gi 26 3 4 10 (by decide +kernel) ?_
    rw [ep]
    refine fx_ige 90 13 (by decide +kernel) (by unfold fR; omega) (by first | exact hg 3 4 (by decide) (by decide +kernel) (by decide +kernel) | (unfold fR; omega)) (fun h10 => ?_) (fun h10 => ?_)
    · refine fx_vret (by decide +kernel) ?_
      have e0 : l = 0 := by omega
      subst e0
      have e : t = R := e
      subst e
      exact kq g h
    · obtain ⟨l', rfl⟩ : ∃ l', l = l' + 1 := ⟨l - 1, by omega⟩
      have hp : p < 8 := by omega
      have e : wanL l' (p + 1) (wan1 t p) = R := e
      have ok := wan1_ok (p := p) h.2.2.1 hp
      have k3 : (p + 1 + l' : Nat) = (wan1 t p 3).toNat := by rw [ok.2 3 (by decide)]; omega
      have es : g 16 10 = t 11 := h.1.1.2.2.2.2.2.2.2
      have epl : g 17 p = t (12 + 7 * p) := h.1.1.1 p hp
      have b4 : RTb 16 (fu g 16 10 (nxS (t 11))) (tU t 11 (nxS (t 11))) := RTb_f (j := 10) (k := 11) h.1 (by omega)
      have bpp := h.2.2.1.1.2.2.2.2.2.1 p hp
      have d1 := dwS_b (nxS (t 11))
      have d2 := dwS_b (nxS (nxS (t 11)))
      have m1 := fop_rm_b (d := dwS (nxS (t 11))) (n := 100) d1.1 (by omega) (by decide) (by decide)
      refine fx_la 1 14 (v := 130) (by decide +kernel) rfl (by decide +kernel) ?_
      refine fx_li 2 15 (by decide +kernel) rfl ?_
      refine fx_c2 55 21 18 1 [] (by decide +kernel) (by decide) (by decide) (fI_n4 _) rfl (by first | decide | omega) ?_
      refine sp_cawayR_table h.1.1 hp (fun u => fK1 ?_) (fun u => fK1 ?_)
      · refine fx_zeq 84 21 (by decide +kernel) (by unfold fR; omega) (fun hc => absurd hc (by decide)) (fun _ => ?_)
        refine fx_la 1 22 (v := 130) (by decide +kernel) rfl (by decide +kernel) ?_
        refine fx_c1 163 21 25 0 [] (by decide +kernel) (by decide) rfl (by first | decide | omega) ?_
        have ew : wan1 t p = wanT t p := if_pos u
        rw [ew] at e ok k3
        refine sp_cdraw_table (fK1 ?_)
        rw [es]
        refine fx_ci (100) 27 (by decide +kernel) ?_
        refine fx_bin 10 28 (by decide +kernel) rfl (fun _ => by decide) ?_
        refine fx_la 0 29 (v := 346) (by decide +kernel) rfl (by decide +kernel) ?_
        refine fx_gp 346 43 0 26 32 (by decide +kernel) ?_
        refine fx_gi 26 3 8 35 (by decide +kernel) ?_
        try simp only [fu_app, fcy_app, Nat.reduceEqDiff, and_true, and_false, false_and, true_and, if_true, if_false, ite_true, ite_false, reduceIte, Int.reduceToNat, fx_simp0]
        rw [ewk]
        refine fx_ilt 41 38 (by decide +kernel) (by first | exact fop_R _ _ _ | (unfold fR; omega)) (by unfold fR; omega) (fun h35 => ?_) (fun h35 => ?_)
        · have rd : 0 ≤ t (116 + (t (12 + 7 * p)).toNat) ∧ t (116 + (t (12 + 7 * p)).toNat) ≤ 255 := h.2.2.1.1.2.2.2.2.2.2.2.1 _ (by omega)
          have erd : g 7 (t (12 + 7 * p)).toNat = t (116 + (t (12 + 7 * p)).toNat) := hH.2.2.2.2.2.2.2.2.2 _ (by omega)
          have hb := pB_b rd.1 rd.2
          refine fx_la 0 42 (v := 346) (by decide +kernel) rfl (by decide +kernel) ?_
          refine fx_gp 346 43 0 26 45 (by decide +kernel) ?_
          refine fx_gp 26 3 3 58 48 (by decide +kernel) ?_
          refine fx_la 1 49 (v := 130) (by decide +kernel) rfl (by decide +kernel) ?_
          refine fx_gp 130 16 0 138 52 (by decide +kernel) ?_
          refine fx_li 2 53 (by decide +kernel) rfl ?_
          refine fx_al 138 17 8 54 (by decide +kernel) rfl (by omega) (by omega) rfl ?_
          try simp only [fu_app, fcy_app, Nat.reduceEqDiff, and_true, and_false, false_and, true_and, if_true, if_false, ite_true, ite_false, reduceIte, Int.reduceToNat, fx_simp0]
          rw [show ((p : Int)).toNat = p from rfl, epl]
          refine fx_al 58 7 8 55 (by decide +kernel) rfl (by omega) (by omega) rfl ?_
          try simp only [fu_app, fcy_app, Nat.reduceEqDiff, and_true, and_false, false_and, true_and, if_true, if_false, ite_true, ite_false, reduceIte, Int.reduceToNat, fx_simp0]
          rw [erd]
          refine fx_si 3 56 (by decide +kernel) (Or.inr (fI_n4 _)) rfl ?_
          dsimp only [List.set]
          refine fx_li 3 57 (by decide +kernel) rfl ?_
          refine fx_c1 20 22 60 0 [] (f_q22 (by decide +kernel)) (fI_n4 _) rfl (by first | decide | omega) ?_
          refine sp_bitCount8 rd.1 rd.2 (fK1 ?_)
          refine fx_si 4 62 (by decide +kernel) (Or.inr (fI_n4 _)) rfl ?_
          dsimp only [List.set]
          refine fx_li 4 64 (by decide +kernel) rfl ?_
          refine fx_zle 84 67 (by decide +kernel) (by unfold fR; omega) (fun h64 => ?_) (fun h64 => ?_)
          · refine fx_inc 2 87 (1) (by decide +kernel) rfl (Or.inr (f_n4p (v := 130) rfl (by decide))) rfl ?_
            dsimp only [List.set]
            refine fx_go 2 (by decide +kernel) ?_
            have z0 : t (116 + (t (12 + 7 * p)).toNat) = 0 := Classical.byContradiction (fun q => by have := hb.2.2.1 q; omega)
            have ew2 : wanT t p = tU t 11 (nxS (t 11)) := by unfold wanT; rw [if_pos (by omega), if_pos z0]
            rw [ew2] at e ok k3
            exact sp_cwander_1_table hn kq l' (p + 1) _ _ _ _ k3 ⟨b4, h.2.1.u (by decide), ok.1, h.2.2.2.tr ok.2⟩ e
          · have z0 : ¬ t (116 + (t (12 + 7 * p)).toNat) = 0 := fun q => by have := hb.2.2.2 q; omega
            have rm := fop_rm_b (d := dwS (nxS (nxS (t 11)))) (n := pB (t (116 + (t (12 + 7 * p)).toNat)) 31) d2.1 (by omega) (by omega) (by omega)
            obtain ⟨-, -, -, q0, q1⟩ := pM_ok rd.1 rd.2 rm.1 rm.2
            have ew2 : wanT t p = tU (tU t 11 (nxS (nxS (t 11)))) (12 + 7 * p + 0) (pKt (t (116 + (t (12 + 7 * p)).toNat)) (fop 10 (dwS (nxS (nxS (t 11)))) (pB (t (116 + (t (12 + 7 * p)).toNat)) 31))) := by unfold wanT; rw [if_pos (by omega), if_neg z0]
            rw [ew2] at e ok k3
            refine fx_la 1 68 (v := 130) (by decide +kernel) rfl (by decide +kernel) ?_
            refine fx_gp 130 16 0 138 71 (by decide +kernel) ?_
            refine fx_li 2 72 (by decide +kernel) rfl ?_
            refine fx_li 3 73 (by decide +kernel) rfl ?_
            refine fx_la 1 74 (v := 130) (by decide +kernel) rfl (by decide +kernel) ?_
            refine fx_c1 163 21 77 0 [] (by decide +kernel) (by decide) rfl (by first | decide | omega) ?_
            refine sp_cdraw_table (fK1 ?_)
            rw [fu_eq, fu_fu]
            refine fx_li 4 79 (by decide +kernel) rfl ?_
            refine fx_bin 10 80 (by decide +kernel) rfl (fun _ => i32_n0 (by omega) (by omega)) ?_
            refine fx_c2 164 22 83 1 [7, 7] (f_q22 (by decide +kernel)) (by decide) (fI_n4 _) (fI_n4 _) rfl (by first | decide | omega) ?_
            refine sp_cmem rd.1 rd.2 rm.1 rm.2 (fK1 ?_)
            refine fx_as 138 17 8 84 (by decide +kernel) rfl (by omega) (by omega) rfl (by unfold fR; omega) ?_
            refine fx_inc 2 87 (1) (by decide +kernel) rfl (Or.inr (f_n4p (v := 130) rfl (by decide))) rfl ?_
            dsimp only [List.set]
            refine fx_go 2 (by decide +kernel) ?_
            rw [show ((p : Int)).toNat = p from rfl]
            have b5 : RTb 16 (fu g 16 10 (nxS (nxS (t 11)))) (tU t 11 (nxS (nxS (t 11)))) := RTb_f (j := 10) (k := 11) h.1 (by omega)
            have b6 := RTb_a (v := pKt (t (116 + (t (12 + 7 * p)).toNat)) (fop 10 (dwS (nxS (nxS (t 11)))) (pB (t (116 + (t (12 + 7 * p)).toNat)) 31))) b5 hp (i := 1) (w := 0) (by omega)
            exact sp_cwander_1_table hn kq l' (p + 1) _ _ _ _ k3 ⟨b6, (h.2.1.u (by decide)).u (by decide), ok.1, h.2.2.2.tr ok.2⟩ e
        · refine fx_go 84 (by decide +kernel) ?_
          refine fx_inc 2 87 (1) (by decide +kernel) rfl (Or.inr (f_n4p (v := 130) rfl (by decide))) rfl ?_
          dsimp only [List.set]
          refine fx_go 2 (by decide +kernel) ?_
          have ew2 : wanT t p = tU t 11 (nxS (t 11)) := if_neg (by omega)
          rw [ew2] at e ok k3
          exact sp_cwander_1_table hn kq l' (p + 1) _ _ _ _ k3 ⟨b4, h.2.1.u (by decide), ok.1, h.2.2.2.tr ok.2⟩ e
      · refine fx_zeq 84 21 (by decide +kernel) (by unfold fR; omega) (fun _ => ?_) (fun hc => absurd hc (by decide))
        refine fx_inc 2 87 (1) (by decide +kernel) rfl (Or.inr (f_n4p (v := 130) rfl (by decide))) rfl ?_
        dsimp only [List.set]
        refine fx_go 2 (by decide +kernel) ?_
        have ew : wan1 t p = t := if_neg u
        rw [ew] at e
        exact sp_cwander_1_table hn kq l' (p + 1) t g _ _ (by omega) h e
theorem sp_cwander_table {g : Nat → Nat → Int} {t : Nat → Int} (hn : CN_table g0 t0 segs) (h : CT_table g0 t0 g t) (kq : ∀ g', CT_table g0 t0 g' (wanL (t 3).toNat 0 t) → Q 0 0 g') : fx W r 2 162 0 [346, 130, 7, 7, 7] [] g Q := by
  refine fx_ci (0) 1 (by decide +kernel) ?_
  refine fx_si 2 2 (by decide +kernel) (Or.inr (f_n4p (v := 130) rfl (by decide))) rfl ?_
  dsimp only [List.set]
  exact sp_cwander_1_table hn kq _ 0 t g _ _ (by omega) h rfl
theorem sp_cchill_table {g : Nat → Nat → Int} {t : Nat → Int} {p : Nat} {d : Int} (hn : CN_table g0 t0 segs) (h : CT_table g0 t0 g t) (hp : p < 8) (ha : t (12 + 7 * p) ≠ -1) (hc : eV t segs p (t (12 + 7 * p)) d = 0) (kq : ∀ g', CT_table g0 t0 g' (eaT segs d t p) → Q 0 0 g') : fx W r 1 166 0 [346, 130, fI (p : Int)] [] g Q := by
  obtain ⟨hH, -, -⟩ := h.H hn
  have ok := eaT_ok (segs := segs) (d := d) h.2.2.1 hp ha
  obtain ⟨b3, b4, b7, b9, b10, bp, bc, br, be⟩ := h.2.2.1.1
  have bpp := bp p hp
  have bcp := bc p hp
  have ec : g 20 p = t (18 + 7 * p) := h.1.1.2.2.2.1 p hp
  have epl : g 17 p = t (12 + 7 * p) := h.1.1.1 p hp
  have elm : g 3 9 = t 7 := hH.2.2.2.2.2.1
  have e9 : g 16 9 = t 9 := h.1.1.2.2.2.2.2.2.1
  have hl := h.1.2
  obtain ⟨l5, l5', l6, l10, l10', -⟩ := hl
  have eT : eaT segs d t p = (if t (18 + 7 * p) < t 7 ∧ (if 99 < t (18 + 7 * p) + 1 then 99 else t (18 + 7 * p) + 1) = t 7 then tNote (tU t (12 + 7 * p + 6) (if 99 < t (18 + 7 * p) + 1 then 99 else t (18 + 7 * p) + 1)) p 3 (t (12 + 7 * p)) else tU t (12 + 7 * p + 6) (if 99 < t (18 + 7 * p) + 1 then 99 else t (18 + 7 * p) + 1)) := if_pos hc
  refine fx_la 1 1 (v := 130) (by decide +kernel) rfl (by decide +kernel) ?_
  refine fx_gp 130 16 3 162 4 (by decide +kernel) ?_
  refine fx_li 2 5 (by decide +kernel) rfl ?_
  refine fx_al 162 20 8 6 (by decide +kernel) rfl (by omega) (by omega) rfl ?_
  rw [show ((p : Int)).toNat = p from rfl, ec]
  refine fx_ci (99) 8 (by decide +kernel) ?_
  refine fx_ilt 12 11 (by decide +kernel) (by unfold fR; omega) (by unfold fR; omega) (fun h8 => ?_) (fun h8 => ?_)
  · have v1 : (if 99 < t (18 + 7 * p) + 1 then (99 : Int) else t (18 + 7 * p) + 1) = t (18 + 7 * p) + 1 := if_neg (by omega)
    rw [v1] at eT
    have b5 : RTb 16 (fu g 20 p (t (18 + 7 * p) + 1)) (tU t (12 + 7 * p + 6) (t (18 + 7 * p) + 1)) := RTb_a (v := t (18 + 7 * p) + 1) h.1 hp (i := 4) (w := 6) (by omega)
    refine fx_la 1 13 (v := 130) (by decide +kernel) rfl (by decide +kernel) ?_
    refine fx_gp 130 16 3 162 16 (by decide +kernel) ?_
    refine fx_li 2 17 (by decide +kernel) rfl ?_
    refine fx_dup2 18 (by decide +kernel) rfl (fI_n4 _) (by decide) ?_
    refine fx_al 162 20 8 19 (by decide +kernel) rfl (by omega) (by omega) rfl ?_
    rw [show ((p : Int)).toNat = p from rfl, ec]
    refine fx_ci (1) 20 (by decide +kernel) ?_
    refine fx_add 21 (by decide +kernel) rfl ?_
    refine fx_as 162 20 8 22 (by decide +kernel) rfl (by omega) (by omega) rfl (by unfold fR; omega) ?_
    refine fx_la 1 23 (v := 130) (by decide +kernel) rfl (by decide +kernel) ?_
    refine fx_gp 130 16 3 162 26 (by decide +kernel) ?_
    refine fx_li 2 27 (by decide +kernel) rfl ?_
    refine fx_al 162 20 8 28 (by decide +kernel) rfl (by omega) (by omega) rfl ?_
    try simp only [fu_app, fcy_app, Nat.reduceEqDiff, and_true, and_false, false_and, true_and, if_true, if_false, ite_true, ite_false, reduceIte, Int.reduceToNat, fx_simp0]
    refine fx_la 0 29 (v := 346) (by decide +kernel) rfl (by decide +kernel) ?_
    refine fx_gp 346 43 0 26 32 (by decide +kernel) ?_
    refine fx_gi 26 3 9 35 (by decide +kernel) ?_
    try simp only [fu_app, fcy_app, Nat.reduceEqDiff, and_true, and_false, false_and, true_and, if_true, if_false, ite_true, ite_false, reduceIte, Int.reduceToNat, fx_simp0]
    rw [elm]
    refine fx_ine 50 38 (by decide +kernel) (by unfold fR; omega) (by unfold fR; omega) (fun h35 => ?_) (fun h35 => ?_)
    · refine fx_vret (by decide +kernel) ?_
      rw [if_neg (fun q => by have := q.2; omega)] at eT
      rw [eT] at kq ok
      exact kq _ ⟨b5, h.2.1.u (by decide), ok.1, h.2.2.2.tr ok.2⟩
    · refine fx_la 1 39 (v := 130) (by decide +kernel) rfl (by decide +kernel) ?_
      refine fx_li 2 40 (by decide +kernel) rfl ?_
      refine fx_ci (3) 41 (by decide +kernel) ?_
      refine fx_la 1 42 (v := 130) (by decide +kernel) rfl (by decide +kernel) ?_
      refine fx_gp 130 16 0 138 45 (by decide +kernel) ?_
      refine fx_li 2 46 (by decide +kernel) rfl ?_
      refine fx_al 138 17 8 47 (by decide +kernel) rfl (by omega) (by omega) rfl ?_
      try simp only [fu_app, fcy_app, Nat.reduceEqDiff, and_true, and_false, false_and, true_and, if_true, if_false, ite_true, ite_false, reduceIte, Int.reduceToNat, fx_simp0]
      rw [show ((p : Int)).toNat = p from rfl, epl]
      refine fx_c4 153 21 50 0 [] (by decide +kernel) (by decide) (by decide) (fI_n4 _) (fI_n4 _) (fI_n4 _) rfl (by first | decide | omega) ?_
      refine sp_cnote_table (by rw [fu_nc (by decide)]; exact l5) (by rw [fu_nc (by decide)]; exact l5') (by rw [fu_nc (by decide), l6]; exact l10) (by rw [fu_nc (by decide), l6]; exact l10') (by rw [fu_nc (by decide), e9]; exact b9.1) (by rw [fu_nc (by decide), e9]; exact b9.2) (by omega) (by omega) (by decide) (by decide) (by omega) (by omega) (fK0 ?_)
      refine fx_vret (by decide +kernel) ?_
      rw [if_pos ⟨by omega, by omega⟩] at eT
      rw [eT] at kq ok
      have b6 := RTb_note (p := (p : Int)) (k := 3) (w := t (12 + 7 * p)) b5 (by rw [tU_ne (by omega)]; exact b9.1) (by rw [tU_ne (by omega)]; exact b9.2) (by omega) (by omega) (by decide) (by decide) (by omega) (by omega)
      exact kq _ ⟨b6, (h.2.1.u (by decide)).nt, ok.1, h.2.2.2.tr ok.2⟩
  · refine fx_vret (by decide +kernel) ?_
    have c99 : t (18 + 7 * p) = 99 := by omega
    have eT2 : eaT segs d t p = t := by
      have v1 : (if 99 < t (18 + 7 * p) + 1 then (99 : Int) else t (18 + 7 * p) + 1) = 99 := if_pos (by omega)
      rw [eT, if_neg (fun q => by have := q.1; omega), v1]
      funext k
      unfold tU
      split
      · rename_i q
        rw [q, show 12 + 7 * p + 6 = 18 + 7 * p by omega, c99]
      · rfl
    rw [eT2] at kq
    exact kq g h
theorem sp_ceat_1_table {d N : Int} (hn : CN_table g0 t0 segs) (d0 : 0 ≤ d) (d5 : d ≤ 5) (kq : ∀ g', CT_table g0 t0 g' R → Q 1 (fI N) g') : ∀ (l p : Nat) (t : Nat → Int) (n : Int) (g : Nat → Nat → Int), (p + l : Nat) = (t 3).toNat → d < t 4 → CT_table g0 t0 g t → 0 ≤ n → n ≤ p → eaL segs d l p t = R → eaN segs d l p t n = N → fx W r 4 165 5 [346, 130, fI d, fI n, fI (p : Int)] [] g Q
  | l, p, t, n, g, hl, h4, h, n0, n1, e, en => by
    obtain ⟨hH, hL, hR⟩ := h.H hn
    have b3 := h.2.2.1.1.1
    have b4 := h.2.2.1.1.2.1
    have ep : g 3 4 = t 3 := hH.1
    refine fx_li 4 7 (by decide +kernel) rfl ?_
    refine fx_la 0 8 (v := 346) (by decide +kernel) rfl (by decide +kernel) ?_
    refine fx_gp 346 43 0 26 11 (by decide +kernel) ?_
    refine fx_gi 26 3 4 14 (by decide +kernel) ?_
    rw [ep]
    refine fx_ige 74 17 (by decide +kernel) (by unfold fR; omega) (by first | exact hg 3 4 (by decide) (by decide +kernel) (by decide +kernel) | (unfold fR; omega)) (fun h14 => ?_) (fun h14 => ?_)
    · refine fx_li 3 75 (by decide +kernel) rfl ?_
      refine fx_ret (by decide +kernel) ?_
      have e0 : l = 0 := by omega
      subst e0
      have e : t = R := e
      have en : n = N := en
      subst e en
      exact kq g h
    · obtain ⟨l', rfl⟩ : ∃ l', l = l' + 1 := ⟨l - 1, by omega⟩
      have hp : p < 8 := by omega
      have e : eaL segs d l' (p + 1) (ea1 segs d t p) = R := e
      have en : eaN segs d l' (p + 1) (ea1 segs d t p) (if (t (12 + 7 * p) ≠ -1 ∧ t (17 + 7 * p) ≠ 1) ∧ eV t segs p (t (12 + 7 * p)) d = 0 then n + 1 else n) = N := en
      have ok := ea1_ok (segs := segs) (d := d) (p := p) h.2.2.1 hp
      have k3 : (p + 1 + l' : Nat) = (ea1 segs d t p 3).toNat := by rw [ok.2 3 (by decide)]; omega
      have k4 : d < ea1 segs d t p 4 := by rw [ok.2 4 (by decide)]; exact h4
      have epl : g 17 p = t (12 + 7 * p) := h.1.1.1 p hp
      have bpp := h.2.2.1.1.2.2.2.2.2.1 p hp
      refine fx_la 1 18 (v := 130) (by decide +kernel) rfl (by decide +kernel) ?_
      refine fx_li 4 20 (by decide +kernel) rfl ?_
      refine fx_c2 55 21 23 1 [] (by decide +kernel) (by decide) (by decide) (fI_n4 _) rfl (by first | decide | omega) ?_
      refine sp_cawayR_table h.1.1 hp (fun u => fK1 ?_) (fun u => fK1 ?_)
      · refine fx_zne 29 26 (by decide +kernel) (by unfold fR; omega) (fun _ => ?_) (fun hc => absurd hc (by decide))
        refine fx_la 0 30 (v := 346) (by decide +kernel) rfl (by decide +kernel) ?_
        refine fx_la 1 31 (v := 130) (by decide +kernel) rfl (by decide +kernel) ?_
        refine fx_li 4 33 (by decide +kernel) rfl ?_
        refine fx_la 1 34 (v := 130) (by decide +kernel) rfl (by decide +kernel) ?_
        refine fx_gp 130 16 0 138 37 (by decide +kernel) ?_
        refine fx_li 4 39 (by decide +kernel) rfl ?_
        refine fx_al 138 17 8 40 (by decide +kernel) rfl (by omega) (by omega) rfl ?_
        try simp only [fu_app, fcy_app, Nat.reduceEqDiff, and_true, and_false, false_and, true_and, if_true, if_false, ite_true, ite_false, reduceIte, Int.reduceToNat, fx_simp0]
        rw [show ((p : Int)).toNat = p from rfl, epl]
        refine fx_li 2 41 (by decide +kernel) rfl ?_
        refine fx_c5 143 21 44 3 [7] (by decide +kernel) (by decide) (by decide) (by decide) (fI_n4 _) (fI_n4 _) (fI_n4 _) rfl (by first | decide | omega) ?_
        have ew : ea1 segs d t p = eaT segs d t p := if_pos u
        rw [ew] at e en ok k3 k4
        have hF : cFv_table g p (t (12 + 7 * p)) d = mFv t p (t (12 + 7 * p)) d := cF_m_table hH h.1.1 hp
        have ee : g 6 (d * 8 + t (12 + 7 * p)).toNat = t (68 + (d * 8 + t (12 + 7 * p)).toNat) := hH.2.2.2.2.2.2.2.2.1 _ (by have e5 : g 3 5 = t 4 := hH.2.1; show ((d * 8 + t (12 + 7 * p)).toNat : Int) < 8 * g 3 5; rw [e5]; omega)
        have be := h.2.2.1.1.2.2.2.2.2.2.2.2 (d * 8 + t (12 + 7 * p)).toNat (by omega)
        have hok := hR.ok (mFv_78 t p (t (12 + 7 * p)) d)
        have evb : 0 ≤ eV t segs p (t (12 + 7 * p)) d ∧ eV t segs p (t (12 + 7 * p)) d ≤ 1000 := by
          have hmb := lwM_b (F := mFv t p (t (12 + 7 * p)) d) segs 0 (fun s hs => (hok s hs).2.2)
          have h12 := hR.2.2.2
          unfold eV
          split <;> omega
        refine sp_ceatenBy_table hL (by rw [hF]; exact hok) hp ⟨by omega, bpp.2⟩ ⟨d0, by omega⟩ (by rw [ee]; exact be) (fun g1 x1 => fK1 ?_)
        rw [ee, hF]
        have ev : (if 0 ≤ t (68 + (d * 8 + t (12 + 7 * p)).toNat) + lwM (mFv t p (t (12 + 7 * p)) d) segs 0 then t (68 + (d * 8 + t (12 + 7 * p)).toNat) + lwM (mFv t p (t (12 + 7 * p)) d) segs 0 else 0) = eV t segs p (t (12 + 7 * p)) d := rfl
        rw [ev]
        have h1 := h.fs x1
        refine fx_zne 60 47 (by decide +kernel) (by unfold fR; omega) (fun h44 => ?_) (fun h44 => ?_)
        · refine fx_la 1 61 (v := 130) (by decide +kernel) rfl (by decide +kernel) ?_
          refine fx_gp 130 16 3 162 64 (by decide +kernel) ?_
          refine fx_li 4 66 (by decide +kernel) rfl ?_
          refine fx_ci (0) 67 (by decide +kernel) ?_
          refine fx_as 162 20 8 68 (by decide +kernel) rfl (by omega) (by omega) rfl (by unfold fR; omega) ?_
          refine fx_inc 4 71 (1) (by decide +kernel) rfl (Or.inr (fI_n4 _)) rfl ?_
          dsimp only [List.set]
          refine fx_go 5 (by decide +kernel) ?_
          have ez : ¬ eV t segs p (t (12 + 7 * p)) d = 0 := by omega
          rw [if_neg (fun q => ez q.2)] at en
          have eT : eaT segs d t p = tU t (12 + 7 * p + 6) 0 := if_neg ez
          rw [eT] at e en ok k3 k4
          rw [show ((p : Int)).toNat = p from rfl]
          have b6 := RTb_a (v := 0) h1.1 hp (i := 4) (w := 6) (by omega)
          exact sp_ceat_1_table hn d0 d5 kq l' (p + 1) _ n _ k3 k4 ⟨b6, h1.2.1.u (by decide), ok.1, h1.2.2.2.tr ok.2⟩ n0 (by omega) e en
        · refine fx_inc 3 50 (1) (by decide +kernel) rfl (Or.inr (fI_n4 _)) rfl ?_
          dsimp only [List.set]
          refine fx_la 0 51 (v := 346) (by decide +kernel) rfl (by decide +kernel) ?_
          refine fx_la 1 52 (v := 130) (by decide +kernel) rfl (by decide +kernel) ?_
          refine fx_li 4 54 (by decide +kernel) rfl ?_
          refine fx_c3 166 21 57 1 [] (by decide +kernel) (by decide) (by decide) (by decide) (fI_n4 _) rfl (by first | decide | omega) ?_
          have ez : eV t segs p (t (12 + 7 * p)) d = 0 := by omega
          refine sp_cchill_table (d := d) hn h1 hp u.1 ez (fun g2 h2 => fK0 ?_)
          refine fx_go 68 (by decide +kernel) ?_
          refine fx_inc 4 71 (1) (by decide +kernel) rfl (Or.inr (fI_n4 _)) rfl ?_
          dsimp only [List.set]
          refine fx_go 5 (by decide +kernel) ?_
          rw [if_pos ⟨u, ez⟩] at en
          exact sp_ceat_1_table hn d0 d5 kq l' (p + 1) _ (n + 1) g2 k3 k4 h2 (by omega) (by omega) e en
      · refine fx_zne 29 26 (by decide +kernel) (by unfold fR; omega) (fun hc => absurd hc (by decide)) (fun _ => ?_)
        refine fx_go 68 (by decide +kernel) ?_
        refine fx_inc 4 71 (1) (by decide +kernel) rfl (Or.inr (fI_n4 _)) rfl ?_
        dsimp only [List.set]
        refine fx_go 5 (by decide +kernel) ?_
        have ew : ea1 segs d t p = t := if_neg u
        rw [ew] at e en
        rw [if_neg (fun q => u q.1)] at en
        exact sp_ceat_1_table hn d0 d5 kq l' (p + 1) t n g (by omega) h4 h n0 (by omega) e en
theorem sp_cnight_table {g : Nat → Nat → Int} {t : Nat → Int} {d : Int} {dr : Bool} (hn : CN_table g0 t0 segs) (h : CT_table g0 t0 g t) (hd : d = -1 ∨ (0 ≤ d ∧ d < t 4)) (kq : ∀ g', CT_table g0 t0 g' (niT segs d dr t) → Q 1 (fI (niN segs d (niW dr t))) g') : fx W r 5 161 0 [346, 130, fI d, fI (cond dr 1 0), 7] [] g Q := by
  have b4 := h.2.2.1.1.2.1
  have okW := niW_ok (dr := dr) h.2.2.1
  have w3 : niW dr t 3 = t 3 := okW.2 3 (by decide)
  have w4 : niW dr t 4 = t 4 := okW.2 4 (by decide)
  have nb := niN_b (segs := segs) (d := d) okW.1
  have okE := niE_ok (segs := segs) (d := d) okW.1
  have n9 := okE.1.1.2.2.2.1
  have fin : ∀ (x3 : Int) (g1 : Nat → Nat → Int), CT_table g0 t0 g1 (niE segs d (niW dr t)) → fx W r 5 161 24 [346, 130, fI d, fI x3, 7] [fI (niN segs d (niW dr t))] g1 Q := fun x3 g1 h1 => by
    have k9 := ni9_ok (v := if 9999 < niE segs d (niW dr t) 9 + 1 then 9999 else niE segs d (niW dr t) 9 + 1) okE.1 (by split <;> omega) (by split <;> omega)
    unfold niT at kq
    generalize niN segs d (niW dr t) = n at *
    generalize niE segs d (niW dr t) = t2 at *
    have e9 : g1 16 9 = t2 9 := h1.1.1.2.2.2.2.2.2.1
    refine fx_si 4 26 (by decide +kernel) (Or.inr (fI_n4 _)) rfl ?_
    dsimp only [List.set]
    refine fx_la 1 27 (v := 130) (by decide +kernel) rfl (by decide +kernel) ?_
    refine fx_ci (9999) 30 (by decide +kernel) ?_
    refine fx_la 1 31 (v := 130) (by decide +kernel) rfl (by decide +kernel) ?_
    refine fx_gi 130 16 9 34 (by decide +kernel) ?_
    rw [e9]
    refine fx_ci (1) 35 (by decide +kernel) ?_
    refine fx_add 36 (by decide +kernel) rfl ?_
    refine fx_c2 158 22 39 0 [] (f_q22 (by decide +kernel)) (by decide) (fI_n4 _) (fI_n4 _) rfl (by first | decide | omega) ?_
    refine sp_min9 (by unfold fR; omega) (fK1 ?_)
    have b6 := RTb_f (j := 9) (k := 9) (v := if 9999 < t2 9 + 1 then 9999 else t2 9 + 1) h1.1 (by omega)
    generalize hv : (if 9999 < t2 9 + 1 then 9999 else t2 9 + 1) = v at kq k9 b6 ⊢
    have hv2 : 0 ≤ v ∧ v ≤ 9999 := by rw [← hv]; split <;> omega
    refine fx_pi 130 16 9 42 (by decide +kernel) (by unfold fR; omega) ?_
    refine fx_li 4 44 (by decide +kernel) rfl ?_
    refine fx_ret (by decide +kernel) ?_
    exact kq _ ⟨b6, h1.2.1.u (by decide), k9.1, h1.2.2.2.tr k9.2⟩
  have mid : ∀ (x3 : Int) (g1 : Nat → Nat → Int), CT_table g0 t0 g1 (niW dr t) → fx W r 5 161 9 [346, 130, fI d, fI x3, 7] [] g1 Q := fun x3 g1 h1 => by
    by_cases dm : d = -1
    · have e1 : niE segs d (niW dr t) = niW dr t := if_pos dm
      have e2 : niN segs d (niW dr t) = 0 := if_pos dm
      refine fx_li 2 10 (by decide +kernel) rfl ?_
      refine fx_cn (-1) 11 (by decide +kernel) (fun v10 c10 => ?_)
      refine fx_ine 18 14 (by decide +kernel) (by unfold fR; omega) (by unfold fR; omega) (fun h11 => ?_) (fun h11 => ?_)
      · exfalso; omega
      · refine fx_ci (0) 15 (by decide +kernel) ?_
        refine fx_go 24 (by decide +kernel) ?_
        have f := fin x3 g1 (by rw [e1]; exact h1)
        rw [e2] at f
        exact f
    · have hd2 : 0 ≤ d ∧ d < t 4 := by omega
      have e1 : niE segs d (niW dr t) = eaL segs d (t 3).toNat 0 (niW dr t) := by unfold niE; rw [if_neg dm, w3]
      have e2 : niN segs d (niW dr t) = eaN segs d (t 3).toNat 0 (niW dr t) 0 := by unfold niN; rw [if_neg dm, w3]
      refine fx_li 2 10 (by decide +kernel) rfl ?_
      refine fx_cn (-1) 11 (by decide +kernel) (fun v10 c10 => ?_)
      refine fx_ine 18 14 (by decide +kernel) (by unfold fR; omega) (by unfold fR; omega) (fun h11 => ?_) (fun h11 => ?_)
      · refine fx_la 0 19 (v := 346) (by decide +kernel) rfl (by decide +kernel) ?_
        refine fx_la 1 20 (v := 130) (by decide +kernel) rfl (by decide +kernel) ?_
        refine fx_li 2 21 (by decide +kernel) rfl ?_
        refine fx_c3 165 21 24 4 [7, 7] (by decide +kernel) (by decide) (by decide) (by decide) (fI_n4 _) rfl (by first | decide | omega) ?_
        refine fx_ci (0) 1 (by decide +kernel) ?_
        refine fx_si 3 2 (by decide +kernel) (Or.inr (fI_n4 _)) rfl ?_
        dsimp only [List.set]
        refine fx_ci (0) 3 (by decide +kernel) ?_
        refine fx_si 4 5 (by decide +kernel) (Or.inr (fI_n4 _)) rfl ?_
        dsimp only [List.set]
        refine sp_ceat_1_table (R := niE segs d (niW dr t)) (N := niN segs d (niW dr t)) hn hd2.1 (by omega) (fun g2 h2 => fK1 ?_) (t 3).toNat 0 (niW dr t) 0 g1 (by rw [w3]; omega) (by rw [w4]; exact hd2.2) h1 (by decide) (by decide) e1.symm e2.symm
        exact fin x3 g2 h2
      · exfalso; omega
  cases dr with
  | false =>
    rw [show (cond false (1 : Int) 0) = 0 from rfl]
    refine fx_li 3 1 (by decide +kernel) rfl ?_
    refine fx_zeq 9 4 (by decide +kernel) (by unfold fR; omega) (fun _ => ?_) (fun hc => absurd hc (by decide))
    exact mid 0 g h
  | true =>
    rw [show (cond true (1 : Int) 0) = 1 from rfl]
    refine fx_li 3 1 (by decide +kernel) rfl ?_
    refine fx_zeq 9 4 (by decide +kernel) (by unfold fR; omega) (fun hc => absurd hc (by decide)) (fun _ => ?_)
    refine fx_la 0 5 (v := 346) (by decide +kernel) rfl (by decide +kernel) ?_
    refine fx_la 1 6 (v := 130) (by decide +kernel) rfl (by decide +kernel) ?_
    refine fx_c2 162 21 9 2 [7, 7, 7] (by decide +kernel) (by decide) (by decide) (by decide) rfl (by first | decide | omega) ?_
    refine sp_cwander_table hn h (fun g1 h1 => fK0 ?_)
    exact mid 1 g1 h1
theorem sp_cnights_1_table {N : Int} {dr : Bool} {nn : Nat} (hn : CN_table g0 t0 segs) (h60 : nn ≤ 60) (kq : ∀ g', CT_table g0 t0 g' R → Q 1 (fI N) g') : ∀ (l k : Nat) (t : Nat → Int) (a : Int) (g : Nat → Nat → Int) (x6 : Nat), k + l = nn → CT_table g0 t0 g t → 0 ≤ a → a ≤ 8 * k → goL segs dr l t = R → goN segs dr l t a = N → fx W r 6 178 6 [346, 130, fI (nn : Int), fI (cond dr 1 0), fI a, fI (k : Int), x6] [] g Q
  | l, k, t, a, g, x6, hl, h, a0, a1, e, en => by
    obtain ⟨hH, -, -⟩ := h.H hn
    have b4 := h.2.2.1.1.2.1
    have b9 := h.2.2.1.1.2.2.2.1
    have db := dsT_b h.2.2.1
    have ed4 : g 3 5 = t 4 := hH.2.1
    have e9 : g 16 9 = t 9 := h.1.1.2.2.2.2.2.2.1
    have hdr : (cond dr (1 : Int) 0) = 0 ∨ (cond dr (1 : Int) 0) = 1 := by cases dr <;> simp
    refine fx_li 5 8 (by decide +kernel) rfl ?_
    refine fx_li 2 9 (by decide +kernel) rfl ?_
    refine fx_ige 59 12 (by decide +kernel) (by unfold fR; omega) (by unfold fR; omega) (fun h9 => ?_) (fun h9 => ?_)
    · refine fx_li 4 61 (by decide +kernel) rfl ?_
      refine fx_ret (by decide +kernel) ?_
      have e0 : l = 0 := by omega
      subst e0
      have e : t = R := e
      have en : a = N := en
      subst e en
      exact kq g h
    · obtain ⟨l', rfl⟩ : ∃ l', l = l' + 1 := ⟨l - 1, by omega⟩
      have e : goL segs dr l' (niT segs (dsT t) dr t) = R := e
      have en : goN segs dr l' (niT segs (dsT t) dr t) (a + niN segs (dsT t) (niW dr t)) = N := en
      have nb := niN_b (segs := segs) (d := dsT t) (niW_ok (dr := dr) h.2.2.1).1
      refine fx_la 0 13 (v := 346) (by decide +kernel) rfl (by decide +kernel) ?_
      refine fx_gp 346 43 0 26 16 (by decide +kernel) ?_
      refine fx_gi 26 3 5 19 (by decide +kernel) ?_
      rw [ed4]
      refine fx_zne 26 22 (by decide +kernel) (by first | exact hg 3 5 (by decide) (by decide +kernel) (by decide +kernel) | (unfold fR; omega)) (fun h19 => ?_) (fun h19 => ?_)
      · refine fx_la 1 27 (v := 130) (by decide +kernel) rfl (by decide +kernel) ?_
        refine fx_gi 130 16 9 30 (by decide +kernel) ?_
        rw [e9]
        refine fx_la 0 31 (v := 346) (by decide +kernel) rfl (by decide +kernel) ?_
        refine fx_gp 346 43 0 26 34 (by decide +kernel) ?_
        refine fx_gi 26 3 5 37 (by decide +kernel) ?_
        rw [ed4]
        refine fx_bin 10 38 (by decide +kernel) rfl (fun _ => i32_n0 (by omega) (by omega)) ?_
        have ed : dsT t = t 9 % t 4 := if_neg h19
        rw [fop_rm b9.1 (by omega) (by omega) (by omega), ← ed]
        refine fx_si 6 40 (by decide +kernel) (Or.inr (fI_n4 _)) rfl ?_
        dsimp only [List.set]
        refine fx_li 4 42 (by decide +kernel) rfl ?_
        refine fx_la 0 43 (v := 346) (by decide +kernel) rfl (by decide +kernel) ?_
        refine fx_la 1 44 (v := 130) (by decide +kernel) rfl (by decide +kernel) ?_
        refine fx_li 6 46 (by decide +kernel) rfl ?_
        refine fx_li 3 47 (by decide +kernel) rfl ?_
        refine fx_c4 161 21 50 5 [7] (by decide +kernel) (by decide) (by decide) (by decide) (fI_n4 _) (fI_n4 _) rfl (by first | decide | omega) ?_
        refine sp_cnight_table hn h (by omega) (fun g2 h2 => fK1 ?_)
        refine fx_add 51 (by decide +kernel) rfl ?_
        refine fx_si 4 53 (by decide +kernel) (Or.inr (fI_n4 _)) rfl ?_
        dsimp only [List.set]
        refine fx_inc 5 56 (1) (by decide +kernel) rfl (Or.inr (fI_n4 _)) rfl ?_
        dsimp only [List.set]
        refine fx_go 6 (by decide +kernel) ?_
        exact sp_cnights_1_table hn h60 kq l' (k + 1) _ _ g2 _ (by omega) h2 (by omega) (by omega) e en
      · refine fx_cn (-1) 23 (by decide +kernel) (fun v22 c22 => ?_)
        refine fx_go 38 (by decide +kernel) ?_
        have ed : dsT t = -1 := if_pos h19
        rw [c22, ← ed]
        refine fx_si 6 40 (by decide +kernel) (Or.inr (fI_n4 _)) rfl ?_
        dsimp only [List.set]
        refine fx_li 4 42 (by decide +kernel) rfl ?_
        refine fx_la 0 43 (v := 346) (by decide +kernel) rfl (by decide +kernel) ?_
        refine fx_la 1 44 (v := 130) (by decide +kernel) rfl (by decide +kernel) ?_
        refine fx_li 6 46 (by decide +kernel) rfl ?_
        refine fx_li 3 47 (by decide +kernel) rfl ?_
        refine fx_c4 161 21 50 5 [7] (by decide +kernel) (by decide) (by decide) (by decide) (fI_n4 _) (fI_n4 _) rfl (by first | decide | omega) ?_
        refine sp_cnight_table hn h (by omega) (fun g2 h2 => fK1 ?_)
        refine fx_add 51 (by decide +kernel) rfl ?_
        refine fx_si 4 53 (by decide +kernel) (Or.inr (fI_n4 _)) rfl ?_
        dsimp only [List.set]
        refine fx_inc 5 56 (1) (by decide +kernel) rfl (Or.inr (fI_n4 _)) rfl ?_
        dsimp only [List.set]
        refine fx_go 6 (by decide +kernel) ?_
        exact sp_cnights_1_table hn h60 kq l' (k + 1) _ _ g2 _ (by omega) h2 (by omega) (by omega) e en
theorem sp_cnights_table {g : Nat → Nat → Int} {t : Nat → Int} {dr : Bool} {nn : Nat} (hn : CN_table g0 t0 segs) (h60 : nn ≤ 60) (h : CT_table g0 t0 g t) (kq : ∀ g', CT_table g0 t0 g' (goL segs dr nn t) → Q 1 (fI (goN segs dr nn t 0)) g') : fx W r 6 178 0 [346, 130, fI (nn : Int), fI (cond dr 1 0), 7, 7, 7] [] g Q := by
  refine fx_ci (0) 1 (by decide +kernel) ?_
  refine fx_si 4 3 (by decide +kernel) (Or.inr (fI_n4 _)) rfl ?_
  dsimp only [List.set]
  refine fx_ci (0) 4 (by decide +kernel) ?_
  refine fx_si 5 6 (by decide +kernel) (Or.inr (fI_n4 _)) rfl ?_
  dsimp only [List.set]
  exact sp_cnights_1_table hn h60 kq nn 0 t 0 g _ (by omega) h (by decide) (by decide) rfl rfl
end FIK_table
/-- where a night of the table scratch stands -/
def fTF_scratch (g0 g : Nat → Nat → Int) : Prop := ∀ c j, ¬ (22 ≤ c ∧ c ≤ 27) → c ≠ 14 → c ≠ 15 → g c j = g0 c j
/-- what is given ahead of it -/
def CN_scratch (g0 : Nat → Nat → Int) (t0 : Nat → Int) (segs : List (List Int × Int × Int)) : Prop := RHf 3 g0 t0 ∧ g0 3 5 ≤ 6 ∧ LwL g0 segs ∧ LwR t0 segs
def CT_scratch (g0 : Nat → Nat → Int) (t0 : Nat → Int) (g : Nat → Nat → Int) (t : Nat → Int) : Prop := RTb 22 g t ∧ fTF_scratch g0 g ∧ NI t ∧ NF t0 t
theorem fTF_scratch.rf {g : Nat → Nat → Int} : fTF_scratch g g := fun _ _ _ _ _ => rfl
theorem fTF_scratch.u {g0 g : Nat → Nat → Int} {c j : Nat} {z : Int} (h : fTF_scratch g0 g) (hc : 22 ≤ c ∧ c ≤ 27) : fTF_scratch g0 (fu g c j z) := fun c' j' a b d => by rw [fu_nc (by omega)]; exact h c' j' a b d
theorem fTF_scratch.fs {g0 g g' : Nat → Nat → Int} (h : fTF_scratch g0 g) (x : fFS g g') : fTF_scratch g0 g' := fun c' j' a b d => by rw [x c' j' b d]; exact h c' j' a b d
theorem fTF_scratch.nt {g0 g : Nat → Nat → Int} {p k w : Int} (h : fTF_scratch g0 g) : fTF_scratch g0 (cNote 22 g p k w) := fun c' j' a b d => by
  rw [cNote_ne (by omega) (by omega)]
  exact h c' j' a b d
theorem CT_scratch.fs {g0 g g' : Nat → Nat → Int} {t0 t : Nat → Int} (h : CT_scratch g0 t0 g t) (x : fFS g g') : CT_scratch g0 t0 g' t := ⟨RTb_cg h.1 (fun j _ _ => x _ _ (by decide) (by decide)) (fun k j _ _ => x _ _ (by omega) (by omega)) (fun _ _ => rfl), h.2.1.fs x, h.2.2⟩
theorem CT_scratch.H {g0 g : Nat → Nat → Int} {t0 t : Nat → Int} {segs : List (List Int × Int × Int)} (h : CT_scratch g0 t0 g t) (n : CN_scratch g0 t0 segs) : RHf 3 g t ∧ LwL g segs ∧ LwR t segs := by
  obtain ⟨n1, n2, n3, n4⟩ := n
  obtain ⟨h1, h2, h3, h4⟩ := h
  have q : RHf 3 g t0 := RHf_eq n1 (fun j _ _ => h2 _ _ (by decide) (by decide) (by decide)) (fun i j i1 i2 => h2 _ _ (by omega) (by omega) (by omega))
  exact ⟨RHf_nf q (by rw [h2 _ _ (by decide) (by decide) (by decide)]; exact n2) h4, n3.cg (h2 _ _ (by decide) (by decide) (by decide)) (fun i j i1 i2 => h2 _ _ (by omega) (by omega) (by omega)), n4.nf h4⟩
section FIK_scratch
variable {W : ax_W} {r : Nat} {g0 : Nat → Nat → Int} {t0 R : Nat → Int} {Q : Nat → Nat → (Nat → Nat → Int) → Prop} {segs : List (List Int × Int × Int)}
theorem sp_cawayR_scratch {g : Nat → Nat → Int} {t : Nat → Int} {p : Nat} (h : RTf 22 g t) (hp : p < 8) (k1 : t (12 + 7 * p) ≠ -1 ∧ t (17 + 7 * p) ≠ 1 → Q 1 (fI 1) g) (k2 : ¬ (t (12 + 7 * p) ≠ -1 ∧ t (17 + 7 * p) ≠ 1) → Q 1 (fI 0) g) : fx W r 1 55 0 [178, fI (p : Int)] [] g Q := by
  have e1 : g 23 p = t (12 + 7 * p) := h.1 p hp
  have e2 : fbt (g 22 7) p = t (17 + 7 * p) := h.2.2.2.2.1 p hp
  refine sp_cisAway_scratch hp (fun u => ?_) (fun u => ?_)
  · rw [e1, e2] at u; exact k1 u
  · rw [e1, e2] at u; exact k2 u
theorem sp_cwander_1_scratch (hn : CN_scratch g0 t0 segs) (kq : ∀ g', CT_scratch g0 t0 g' R → Q 0 0 g') : ∀ (l p : Nat) (t : Nat → Int) (g : Nat → Nat → Int) (x3 x4 : Nat), (p + l : Nat) = (t 3).toNat → CT_scratch g0 t0 g t → wanL l p t = R → fx W r 2 162 2 [346, 178, fI (p : Int), x3, x4] [] g Q
  | l, p, t, g, x3, x4, hl, h, e => by
    obtain ⟨hH, -, -⟩ := h.H hn
    have b3 := h.2.2.1.1.1
    have ep : g 3 4 = t 3 := hH.1
    refine fx_rg (fun hg => ?_)
    have rwk := hg 3 8 (by decide) (by decide +kernel) (by decide +kernel)
    have ewk : g 3 8 = t 6 := hH.2.2.2.2.1
    rw [ewk] at rwk
    unfold fR at rwk
    refine fx_li 2 3 (by decide +kernel) rfl ?_
    refine fx_la 0 4 (v := 346) (by decide +kernel) rfl (by decide +kernel) ?_
    refine fx_gp 346 43 0 26 7 (by decide +kernel) ?_
    refine fx_gi 26 3 4 10 (by decide +kernel) ?_
    rw [ep]
    refine fx_ige 90 13 (by decide +kernel) (by unfold fR; omega) (by first | exact hg 3 4 (by decide) (by decide +kernel) (by decide +kernel) | (unfold fR; omega)) (fun h10 => ?_) (fun h10 => ?_)
    · refine fx_vret (by decide +kernel) ?_
      have e0 : l = 0 := by omega
      subst e0
      have e : t = R := e
      subst e
      exact kq g h
    · obtain ⟨l', rfl⟩ : ∃ l', l = l' + 1 := ⟨l - 1, by omega⟩
      have hp : p < 8 := by omega
      have e : wanL l' (p + 1) (wan1 t p) = R := e
      have ok := wan1_ok (p := p) h.2.2.1 hp
      have k3 : (p + 1 + l' : Nat) = (wan1 t p 3).toNat := by rw [ok.2 3 (by decide)]; omega
      have es : g 22 10 = t 11 := h.1.1.2.2.2.2.2.2.2
      have epl : g 23 p = t (12 + 7 * p) := h.1.1.1 p hp
      have b4 : RTb 22 (fu g 22 10 (nxS (t 11))) (tU t 11 (nxS (t 11))) := RTb_f (j := 10) (k := 11) h.1 (by omega)
      have bpp := h.2.2.1.1.2.2.2.2.2.1 p hp
      have d1 := dwS_b (nxS (t 11))
      have d2 := dwS_b (nxS (nxS (t 11)))
      have m1 := fop_rm_b (d := dwS (nxS (t 11))) (n := 100) d1.1 (by omega) (by decide) (by decide)
      refine fx_la 1 14 (v := 178) (by decide +kernel) rfl (by decide +kernel) ?_
      refine fx_li 2 15 (by decide +kernel) rfl ?_
      refine fx_c2 55 21 18 1 [] (by decide +kernel) (by decide) (by decide) (fI_n4 _) rfl (by first | decide | omega) ?_
      refine sp_cawayR_scratch h.1.1 hp (fun u => fK1 ?_) (fun u => fK1 ?_)
      · refine fx_zeq 84 21 (by decide +kernel) (by unfold fR; omega) (fun hc => absurd hc (by decide)) (fun _ => ?_)
        refine fx_la 1 22 (v := 178) (by decide +kernel) rfl (by decide +kernel) ?_
        refine fx_c1 163 21 25 0 [] (by decide +kernel) (by decide) rfl (by first | decide | omega) ?_
        have ew : wan1 t p = wanT t p := if_pos u
        rw [ew] at e ok k3
        refine sp_cdraw_scratch (fK1 ?_)
        rw [es]
        refine fx_ci (100) 27 (by decide +kernel) ?_
        refine fx_bin 10 28 (by decide +kernel) rfl (fun _ => by decide) ?_
        refine fx_la 0 29 (v := 346) (by decide +kernel) rfl (by decide +kernel) ?_
        refine fx_gp 346 43 0 26 32 (by decide +kernel) ?_
        refine fx_gi 26 3 8 35 (by decide +kernel) ?_
        try simp only [fu_app, fcy_app, Nat.reduceEqDiff, and_true, and_false, false_and, true_and, if_true, if_false, ite_true, ite_false, reduceIte, Int.reduceToNat, fx_simp0]
        rw [ewk]
        refine fx_ilt 41 38 (by decide +kernel) (by first | exact fop_R _ _ _ | (unfold fR; omega)) (by unfold fR; omega) (fun h35 => ?_) (fun h35 => ?_)
        · have rd : 0 ≤ t (116 + (t (12 + 7 * p)).toNat) ∧ t (116 + (t (12 + 7 * p)).toNat) ≤ 255 := h.2.2.1.1.2.2.2.2.2.2.2.1 _ (by omega)
          have erd : g 7 (t (12 + 7 * p)).toNat = t (116 + (t (12 + 7 * p)).toNat) := hH.2.2.2.2.2.2.2.2.2 _ (by omega)
          have hb := pB_b rd.1 rd.2
          refine fx_la 0 42 (v := 346) (by decide +kernel) rfl (by decide +kernel) ?_
          refine fx_gp 346 43 0 26 45 (by decide +kernel) ?_
          refine fx_gp 26 3 3 58 48 (by decide +kernel) ?_
          refine fx_la 1 49 (v := 178) (by decide +kernel) rfl (by decide +kernel) ?_
          refine fx_gp 178 22 0 186 52 (by decide +kernel) ?_
          refine fx_li 2 53 (by decide +kernel) rfl ?_
          refine fx_al 186 23 8 54 (by decide +kernel) rfl (by omega) (by omega) rfl ?_
          try simp only [fu_app, fcy_app, Nat.reduceEqDiff, and_true, and_false, false_and, true_and, if_true, if_false, ite_true, ite_false, reduceIte, Int.reduceToNat, fx_simp0]
          rw [show ((p : Int)).toNat = p from rfl, epl]
          refine fx_al 58 7 8 55 (by decide +kernel) rfl (by omega) (by omega) rfl ?_
          try simp only [fu_app, fcy_app, Nat.reduceEqDiff, and_true, and_false, false_and, true_and, if_true, if_false, ite_true, ite_false, reduceIte, Int.reduceToNat, fx_simp0]
          rw [erd]
          refine fx_si 3 56 (by decide +kernel) (Or.inr (fI_n4 _)) rfl ?_
          dsimp only [List.set]
          refine fx_li 3 57 (by decide +kernel) rfl ?_
          refine fx_c1 20 22 60 0 [] (f_q22 (by decide +kernel)) (fI_n4 _) rfl (by first | decide | omega) ?_
          refine sp_bitCount8 rd.1 rd.2 (fK1 ?_)
          refine fx_si 4 62 (by decide +kernel) (Or.inr (fI_n4 _)) rfl ?_
          dsimp only [List.set]
          refine fx_li 4 64 (by decide +kernel) rfl ?_
          refine fx_zle 84 67 (by decide +kernel) (by unfold fR; omega) (fun h64 => ?_) (fun h64 => ?_)
          · refine fx_inc 2 87 (1) (by decide +kernel) rfl (Or.inr (f_n4p (v := 178) rfl (by decide))) rfl ?_
            dsimp only [List.set]
            refine fx_go 2 (by decide +kernel) ?_
            have z0 : t (116 + (t (12 + 7 * p)).toNat) = 0 := Classical.byContradiction (fun q => by have := hb.2.2.1 q; omega)
            have ew2 : wanT t p = tU t 11 (nxS (t 11)) := by unfold wanT; rw [if_pos (by omega), if_pos z0]
            rw [ew2] at e ok k3
            exact sp_cwander_1_scratch hn kq l' (p + 1) _ _ _ _ k3 ⟨b4, h.2.1.u (by decide), ok.1, h.2.2.2.tr ok.2⟩ e
          · have z0 : ¬ t (116 + (t (12 + 7 * p)).toNat) = 0 := fun q => by have := hb.2.2.2 q; omega
            have rm := fop_rm_b (d := dwS (nxS (nxS (t 11)))) (n := pB (t (116 + (t (12 + 7 * p)).toNat)) 31) d2.1 (by omega) (by omega) (by omega)
            obtain ⟨-, -, -, q0, q1⟩ := pM_ok rd.1 rd.2 rm.1 rm.2
            have ew2 : wanT t p = tU (tU t 11 (nxS (nxS (t 11)))) (12 + 7 * p + 0) (pKt (t (116 + (t (12 + 7 * p)).toNat)) (fop 10 (dwS (nxS (nxS (t 11)))) (pB (t (116 + (t (12 + 7 * p)).toNat)) 31))) := by unfold wanT; rw [if_pos (by omega), if_neg z0]
            rw [ew2] at e ok k3
            refine fx_la 1 68 (v := 178) (by decide +kernel) rfl (by decide +kernel) ?_
            refine fx_gp 178 22 0 186 71 (by decide +kernel) ?_
            refine fx_li 2 72 (by decide +kernel) rfl ?_
            refine fx_li 3 73 (by decide +kernel) rfl ?_
            refine fx_la 1 74 (v := 178) (by decide +kernel) rfl (by decide +kernel) ?_
            refine fx_c1 163 21 77 0 [] (by decide +kernel) (by decide) rfl (by first | decide | omega) ?_
            refine sp_cdraw_scratch (fK1 ?_)
            rw [fu_eq, fu_fu]
            refine fx_li 4 79 (by decide +kernel) rfl ?_
            refine fx_bin 10 80 (by decide +kernel) rfl (fun _ => i32_n0 (by omega) (by omega)) ?_
            refine fx_c2 164 22 83 1 [7, 7] (f_q22 (by decide +kernel)) (by decide) (fI_n4 _) (fI_n4 _) rfl (by first | decide | omega) ?_
            refine sp_cmem rd.1 rd.2 rm.1 rm.2 (fK1 ?_)
            refine fx_as 186 23 8 84 (by decide +kernel) rfl (by omega) (by omega) rfl (by unfold fR; omega) ?_
            refine fx_inc 2 87 (1) (by decide +kernel) rfl (Or.inr (f_n4p (v := 178) rfl (by decide))) rfl ?_
            dsimp only [List.set]
            refine fx_go 2 (by decide +kernel) ?_
            rw [show ((p : Int)).toNat = p from rfl]
            have b5 : RTb 22 (fu g 22 10 (nxS (nxS (t 11)))) (tU t 11 (nxS (nxS (t 11)))) := RTb_f (j := 10) (k := 11) h.1 (by omega)
            have b6 := RTb_a (v := pKt (t (116 + (t (12 + 7 * p)).toNat)) (fop 10 (dwS (nxS (nxS (t 11)))) (pB (t (116 + (t (12 + 7 * p)).toNat)) 31))) b5 hp (i := 1) (w := 0) (by omega)
            exact sp_cwander_1_scratch hn kq l' (p + 1) _ _ _ _ k3 ⟨b6, (h.2.1.u (by decide)).u (by decide), ok.1, h.2.2.2.tr ok.2⟩ e
        · refine fx_go 84 (by decide +kernel) ?_
          refine fx_inc 2 87 (1) (by decide +kernel) rfl (Or.inr (f_n4p (v := 178) rfl (by decide))) rfl ?_
          dsimp only [List.set]
          refine fx_go 2 (by decide +kernel) ?_
          have ew2 : wanT t p = tU t 11 (nxS (t 11)) := if_neg (by omega)
          rw [ew2] at e ok k3
          exact sp_cwander_1_scratch hn kq l' (p + 1) _ _ _ _ k3 ⟨b4, h.2.1.u (by decide), ok.1, h.2.2.2.tr ok.2⟩ e
      · refine fx_zeq 84 21 (by decide +kernel) (by unfold fR; omega) (fun _ => ?_) (fun hc => absurd hc (by decide))
        refine fx_inc 2 87 (1) (by decide +kernel) rfl (Or.inr (f_n4p (v := 178) rfl (by decide))) rfl ?_
        dsimp only [List.set]
        refine fx_go 2 (by decide +kernel) ?_
        have ew : wan1 t p = t := if_neg u
        rw [ew] at e
        exact sp_cwander_1_scratch hn kq l' (p + 1) t g _ _ (by omega) h e
theorem sp_cwander_scratch {g : Nat → Nat → Int} {t : Nat → Int} (hn : CN_scratch g0 t0 segs) (h : CT_scratch g0 t0 g t) (kq : ∀ g', CT_scratch g0 t0 g' (wanL (t 3).toNat 0 t) → Q 0 0 g') : fx W r 2 162 0 [346, 178, 7, 7, 7] [] g Q := by
  refine fx_ci (0) 1 (by decide +kernel) ?_
  refine fx_si 2 2 (by decide +kernel) (Or.inr (f_n4p (v := 178) rfl (by decide))) rfl ?_
  dsimp only [List.set]
  exact sp_cwander_1_scratch hn kq _ 0 t g _ _ (by omega) h rfl
theorem sp_cchill_scratch {g : Nat → Nat → Int} {t : Nat → Int} {p : Nat} {d : Int} (hn : CN_scratch g0 t0 segs) (h : CT_scratch g0 t0 g t) (hp : p < 8) (ha : t (12 + 7 * p) ≠ -1) (hc : eV t segs p (t (12 + 7 * p)) d = 0) (kq : ∀ g', CT_scratch g0 t0 g' (eaT segs d t p) → Q 0 0 g') : fx W r 1 166 0 [346, 178, fI (p : Int)] [] g Q := by
  obtain ⟨hH, -, -⟩ := h.H hn
  have ok := eaT_ok (segs := segs) (d := d) h.2.2.1 hp ha
  obtain ⟨b3, b4, b7, b9, b10, bp, bc, br, be⟩ := h.2.2.1.1
  have bpp := bp p hp
  have bcp := bc p hp
  have ec : g 26 p = t (18 + 7 * p) := h.1.1.2.2.2.1 p hp
  have epl : g 23 p = t (12 + 7 * p) := h.1.1.1 p hp
  have elm : g 3 9 = t 7 := hH.2.2.2.2.2.1
  have e9 : g 22 9 = t 9 := h.1.1.2.2.2.2.2.2.1
  have hl := h.1.2
  obtain ⟨l5, l5', l6, l10, l10', -⟩ := hl
  have eT : eaT segs d t p = (if t (18 + 7 * p) < t 7 ∧ (if 99 < t (18 + 7 * p) + 1 then 99 else t (18 + 7 * p) + 1) = t 7 then tNote (tU t (12 + 7 * p + 6) (if 99 < t (18 + 7 * p) + 1 then 99 else t (18 + 7 * p) + 1)) p 3 (t (12 + 7 * p)) else tU t (12 + 7 * p + 6) (if 99 < t (18 + 7 * p) + 1 then 99 else t (18 + 7 * p) + 1)) := if_pos hc
  refine fx_la 1 1 (v := 178) (by decide +kernel) rfl (by decide +kernel) ?_
  refine fx_gp 178 22 3 210 4 (by decide +kernel) ?_
  refine fx_li 2 5 (by decide +kernel) rfl ?_
  refine fx_al 210 26 8 6 (by decide +kernel) rfl (by omega) (by omega) rfl ?_
  rw [show ((p : Int)).toNat = p from rfl, ec]
  refine fx_ci (99) 8 (by decide +kernel) ?_
  refine fx_ilt 12 11 (by decide +kernel) (by unfold fR; omega) (by unfold fR; omega) (fun h8 => ?_) (fun h8 => ?_)
  · have v1 : (if 99 < t (18 + 7 * p) + 1 then (99 : Int) else t (18 + 7 * p) + 1) = t (18 + 7 * p) + 1 := if_neg (by omega)
    rw [v1] at eT
    have b5 : RTb 22 (fu g 26 p (t (18 + 7 * p) + 1)) (tU t (12 + 7 * p + 6) (t (18 + 7 * p) + 1)) := RTb_a (v := t (18 + 7 * p) + 1) h.1 hp (i := 4) (w := 6) (by omega)
    refine fx_la 1 13 (v := 178) (by decide +kernel) rfl (by decide +kernel) ?_
    refine fx_gp 178 22 3 210 16 (by decide +kernel) ?_
    refine fx_li 2 17 (by decide +kernel) rfl ?_
    refine fx_dup2 18 (by decide +kernel) rfl (fI_n4 _) (by decide) ?_
    refine fx_al 210 26 8 19 (by decide +kernel) rfl (by omega) (by omega) rfl ?_
    rw [show ((p : Int)).toNat = p from rfl, ec]
    refine fx_ci (1) 20 (by decide +kernel) ?_
    refine fx_add 21 (by decide +kernel) rfl ?_
    refine fx_as 210 26 8 22 (by decide +kernel) rfl (by omega) (by omega) rfl (by unfold fR; omega) ?_
    refine fx_la 1 23 (v := 178) (by decide +kernel) rfl (by decide +kernel) ?_
    refine fx_gp 178 22 3 210 26 (by decide +kernel) ?_
    refine fx_li 2 27 (by decide +kernel) rfl ?_
    refine fx_al 210 26 8 28 (by decide +kernel) rfl (by omega) (by omega) rfl ?_
    try simp only [fu_app, fcy_app, Nat.reduceEqDiff, and_true, and_false, false_and, true_and, if_true, if_false, ite_true, ite_false, reduceIte, Int.reduceToNat, fx_simp0]
    refine fx_la 0 29 (v := 346) (by decide +kernel) rfl (by decide +kernel) ?_
    refine fx_gp 346 43 0 26 32 (by decide +kernel) ?_
    refine fx_gi 26 3 9 35 (by decide +kernel) ?_
    try simp only [fu_app, fcy_app, Nat.reduceEqDiff, and_true, and_false, false_and, true_and, if_true, if_false, ite_true, ite_false, reduceIte, Int.reduceToNat, fx_simp0]
    rw [elm]
    refine fx_ine 50 38 (by decide +kernel) (by unfold fR; omega) (by unfold fR; omega) (fun h35 => ?_) (fun h35 => ?_)
    · refine fx_vret (by decide +kernel) ?_
      rw [if_neg (fun q => by have := q.2; omega)] at eT
      rw [eT] at kq ok
      exact kq _ ⟨b5, h.2.1.u (by decide), ok.1, h.2.2.2.tr ok.2⟩
    · refine fx_la 1 39 (v := 178) (by decide +kernel) rfl (by decide +kernel) ?_
      refine fx_li 2 40 (by decide +kernel) rfl ?_
      refine fx_ci (3) 41 (by decide +kernel) ?_
      refine fx_la 1 42 (v := 178) (by decide +kernel) rfl (by decide +kernel) ?_
      refine fx_gp 178 22 0 186 45 (by decide +kernel) ?_
      refine fx_li 2 46 (by decide +kernel) rfl ?_
      refine fx_al 186 23 8 47 (by decide +kernel) rfl (by omega) (by omega) rfl ?_
      try simp only [fu_app, fcy_app, Nat.reduceEqDiff, and_true, and_false, false_and, true_and, if_true, if_false, ite_true, ite_false, reduceIte, Int.reduceToNat, fx_simp0]
      rw [show ((p : Int)).toNat = p from rfl, epl]
      refine fx_c4 153 21 50 0 [] (by decide +kernel) (by decide) (by decide) (fI_n4 _) (fI_n4 _) (fI_n4 _) rfl (by first | decide | omega) ?_
      refine sp_cnote_scratch (by rw [fu_nc (by decide)]; exact l5) (by rw [fu_nc (by decide)]; exact l5') (by rw [fu_nc (by decide), l6]; exact l10) (by rw [fu_nc (by decide), l6]; exact l10') (by rw [fu_nc (by decide), e9]; exact b9.1) (by rw [fu_nc (by decide), e9]; exact b9.2) (by omega) (by omega) (by decide) (by decide) (by omega) (by omega) (fK0 ?_)
      refine fx_vret (by decide +kernel) ?_
      rw [if_pos ⟨by omega, by omega⟩] at eT
      rw [eT] at kq ok
      have b6 := RTb_note (p := (p : Int)) (k := 3) (w := t (12 + 7 * p)) b5 (by rw [tU_ne (by omega)]; exact b9.1) (by rw [tU_ne (by omega)]; exact b9.2) (by omega) (by omega) (by decide) (by decide) (by omega) (by omega)
      exact kq _ ⟨b6, (h.2.1.u (by decide)).nt, ok.1, h.2.2.2.tr ok.2⟩
  · refine fx_vret (by decide +kernel) ?_
    have c99 : t (18 + 7 * p) = 99 := by omega
    have eT2 : eaT segs d t p = t := by
      have v1 : (if 99 < t (18 + 7 * p) + 1 then (99 : Int) else t (18 + 7 * p) + 1) = 99 := if_pos (by omega)
      rw [eT, if_neg (fun q => by have := q.1; omega), v1]
      funext k
      unfold tU
      split
      · rename_i q
        rw [q, show 12 + 7 * p + 6 = 18 + 7 * p by omega, c99]
      · rfl
    rw [eT2] at kq
    exact kq g h
theorem sp_ceat_1_scratch {d N : Int} (hn : CN_scratch g0 t0 segs) (d0 : 0 ≤ d) (d5 : d ≤ 5) (kq : ∀ g', CT_scratch g0 t0 g' R → Q 1 (fI N) g') : ∀ (l p : Nat) (t : Nat → Int) (n : Int) (g : Nat → Nat → Int), (p + l : Nat) = (t 3).toNat → d < t 4 → CT_scratch g0 t0 g t → 0 ≤ n → n ≤ p → eaL segs d l p t = R → eaN segs d l p t n = N → fx W r 4 165 5 [346, 178, fI d, fI n, fI (p : Int)] [] g Q
  | l, p, t, n, g, hl, h4, h, n0, n1, e, en => by
    obtain ⟨hH, hL, hR⟩ := h.H hn
    have b3 := h.2.2.1.1.1
    have b4 := h.2.2.1.1.2.1
    have ep : g 3 4 = t 3 := hH.1
    refine fx_li 4 7 (by decide +kernel) rfl ?_
    refine fx_la 0 8 (v := 346) (by decide +kernel) rfl (by decide +kernel) ?_
    refine fx_gp 346 43 0 26 11 (by decide +kernel) ?_
    refine fx_gi 26 3 4 14 (by decide +kernel) ?_
    rw [ep]
    refine fx_ige 74 17 (by decide +kernel) (by unfold fR; omega) (by first | exact hg 3 4 (by decide) (by decide +kernel) (by decide +kernel) | (unfold fR; omega)) (fun h14 => ?_) (fun h14 => ?_)
    · refine fx_li 3 75 (by decide +kernel) rfl ?_
      refine fx_ret (by decide +kernel) ?_
      have e0 : l = 0 := by omega
      subst e0
      have e : t = R := e
      have en : n = N := en
      subst e en
      exact kq g h
    · obtain ⟨l', rfl⟩ : ∃ l', l = l' + 1 := ⟨l - 1, by omega⟩
      have hp : p < 8 := by omega
      have e : eaL segs d l' (p + 1) (ea1 segs d t p) = R := e
      have en : eaN segs d l' (p + 1) (ea1 segs d t p) (if (t (12 + 7 * p) ≠ -1 ∧ t (17 + 7 * p) ≠ 1) ∧ eV t segs p (t (12 + 7 * p)) d = 0 then n + 1 else n) = N := en
      have ok := ea1_ok (segs := segs) (d := d) (p := p) h.2.2.1 hp
      have k3 : (p + 1 + l' : Nat) = (ea1 segs d t p 3).toNat := by rw [ok.2 3 (by decide)]; omega
      have k4 : d < ea1 segs d t p 4 := by rw [ok.2 4 (by decide)]; exact h4
      have epl : g 23 p = t (12 + 7 * p) := h.1.1.1 p hp
      have bpp := h.2.2.1.1.2.2.2.2.2.1 p hp
      refine fx_la 1 18 (v := 178) (by decide +kernel) rfl (by decide +kernel) ?_
      refine fx_li 4 20 (by decide +kernel) rfl ?_
      refine fx_c2 55 21 23 1 [] (by decide +kernel) (by decide) (by decide) (fI_n4 _) rfl (by first | decide | omega) ?_
      refine sp_cawayR_scratch h.1.1 hp (fun u => fK1 ?_) (fun u => fK1 ?_)
      · refine fx_zne 29 26 (by decide +kernel) (by unfold fR; omega) (fun _ => ?_) (fun hc => absurd hc (by decide))
        refine fx_la 0 30 (v := 346) (by decide +kernel) rfl (by decide +kernel) ?_
        refine fx_la 1 31 (v := 178) (by decide +kernel) rfl (by decide +kernel) ?_
        refine fx_li 4 33 (by decide +kernel) rfl ?_
        refine fx_la 1 34 (v := 178) (by decide +kernel) rfl (by decide +kernel) ?_
        refine fx_gp 178 22 0 186 37 (by decide +kernel) ?_
        refine fx_li 4 39 (by decide +kernel) rfl ?_
        refine fx_al 186 23 8 40 (by decide +kernel) rfl (by omega) (by omega) rfl ?_
        try simp only [fu_app, fcy_app, Nat.reduceEqDiff, and_true, and_false, false_and, true_and, if_true, if_false, ite_true, ite_false, reduceIte, Int.reduceToNat, fx_simp0]
        rw [show ((p : Int)).toNat = p from rfl, epl]
        refine fx_li 2 41 (by decide +kernel) rfl ?_
        refine fx_c5 143 21 44 3 [7] (by decide +kernel) (by decide) (by decide) (by decide) (fI_n4 _) (fI_n4 _) (fI_n4 _) rfl (by first | decide | omega) ?_
        have ew : ea1 segs d t p = eaT segs d t p := if_pos u
        rw [ew] at e en ok k3 k4
        have hF : cFv_scratch g p (t (12 + 7 * p)) d = mFv t p (t (12 + 7 * p)) d := cF_m_scratch hH h.1.1 hp
        have ee : g 6 (d * 8 + t (12 + 7 * p)).toNat = t (68 + (d * 8 + t (12 + 7 * p)).toNat) := hH.2.2.2.2.2.2.2.2.1 _ (by have e5 : g 3 5 = t 4 := hH.2.1; show ((d * 8 + t (12 + 7 * p)).toNat : Int) < 8 * g 3 5; rw [e5]; omega)
        have be := h.2.2.1.1.2.2.2.2.2.2.2.2 (d * 8 + t (12 + 7 * p)).toNat (by omega)
        have hok := hR.ok (mFv_78 t p (t (12 + 7 * p)) d)
        have evb : 0 ≤ eV t segs p (t (12 + 7 * p)) d ∧ eV t segs p (t (12 + 7 * p)) d ≤ 1000 := by
          have hmb := lwM_b (F := mFv t p (t (12 + 7 * p)) d) segs 0 (fun s hs => (hok s hs).2.2)
          have h12 := hR.2.2.2
          unfold eV
          split <;> omega
        refine sp_ceatenBy_scratch hL (by rw [hF]; exact hok) hp ⟨by omega, bpp.2⟩ ⟨d0, by omega⟩ (by rw [ee]; exact be) (fun g1 x1 => fK1 ?_)
        rw [ee, hF]
        have ev : (if 0 ≤ t (68 + (d * 8 + t (12 + 7 * p)).toNat) + lwM (mFv t p (t (12 + 7 * p)) d) segs 0 then t (68 + (d * 8 + t (12 + 7 * p)).toNat) + lwM (mFv t p (t (12 + 7 * p)) d) segs 0 else 0) = eV t segs p (t (12 + 7 * p)) d := rfl
        rw [ev]
        have h1 := h.fs x1
        refine fx_zne 60 47 (by decide +kernel) (by unfold fR; omega) (fun h44 => ?_) (fun h44 => ?_)
        · refine fx_la 1 61 (v := 178) (by decide +kernel) rfl (by decide +kernel) ?_
          refine fx_gp 178 22 3 210 64 (by decide +kernel) ?_
          refine fx_li 4 66 (by decide +kernel) rfl ?_
          refine fx_ci (0) 67 (by decide +kernel) ?_
          refine fx_as 210 26 8 68 (by decide +kernel) rfl (by omega) (by omega) rfl (by unfold fR; omega) ?_
          refine fx_inc 4 71 (1) (by decide +kernel) rfl (Or.inr (fI_n4 _)) rfl ?_
          dsimp only [List.set]
          refine fx_go 5 (by decide +kernel) ?_
          have ez : ¬ eV t segs p (t (12 + 7 * p)) d = 0 := by omega
          rw [if_neg (fun q => ez q.2)] at en
          have eT : eaT segs d t p = tU t (12 + 7 * p + 6) 0 := if_neg ez
          rw [eT] at e en ok k3 k4
          rw [show ((p : Int)).toNat = p from rfl]
          have b6 := RTb_a (v := 0) h1.1 hp (i := 4) (w := 6) (by omega)
          exact sp_ceat_1_scratch hn d0 d5 kq l' (p + 1) _ n _ k3 k4 ⟨b6, h1.2.1.u (by decide), ok.1, h1.2.2.2.tr ok.2⟩ n0 (by omega) e en
        · refine fx_inc 3 50 (1) (by decide +kernel) rfl (Or.inr (fI_n4 _)) rfl ?_
          dsimp only [List.set]
          refine fx_la 0 51 (v := 346) (by decide +kernel) rfl (by decide +kernel) ?_
          refine fx_la 1 52 (v := 178) (by decide +kernel) rfl (by decide +kernel) ?_
          refine fx_li 4 54 (by decide +kernel) rfl ?_
          refine fx_c3 166 21 57 1 [] (by decide +kernel) (by decide) (by decide) (by decide) (fI_n4 _) rfl (by first | decide | omega) ?_
          have ez : eV t segs p (t (12 + 7 * p)) d = 0 := by omega
          refine sp_cchill_scratch (d := d) hn h1 hp u.1 ez (fun g2 h2 => fK0 ?_)
          refine fx_go 68 (by decide +kernel) ?_
          refine fx_inc 4 71 (1) (by decide +kernel) rfl (Or.inr (fI_n4 _)) rfl ?_
          dsimp only [List.set]
          refine fx_go 5 (by decide +kernel) ?_
          rw [if_pos ⟨u, ez⟩] at en
          exact sp_ceat_1_scratch hn d0 d5 kq l' (p + 1) _ (n + 1) g2 k3 k4 h2 (by omega) (by omega) e en
      · refine fx_zne 29 26 (by decide +kernel) (by unfold fR; omega) (fun hc => absurd hc (by decide)) (fun _ => ?_)
        refine fx_go 68 (by decide +kernel) ?_
        refine fx_inc 4 71 (1) (by decide +kernel) rfl (Or.inr (fI_n4 _)) rfl ?_
        dsimp only [List.set]
        refine fx_go 5 (by decide +kernel) ?_
        have ew : ea1 segs d t p = t := if_neg u
        rw [ew] at e en
        rw [if_neg (fun q => u q.1)] at en
        exact sp_ceat_1_scratch hn d0 d5 kq l' (p + 1) t n g (by omega) h4 h n0 (by omega) e en
theorem sp_cnight_scratch {g : Nat → Nat → Int} {t : Nat → Int} {d : Int} {dr : Bool} (hn : CN_scratch g0 t0 segs) (h : CT_scratch g0 t0 g t) (hd : d = -1 ∨ (0 ≤ d ∧ d < t 4)) (kq : ∀ g', CT_scratch g0 t0 g' (niT segs d dr t) → Q 1 (fI (niN segs d (niW dr t))) g') : fx W r 5 161 0 [346, 178, fI d, fI (cond dr 1 0), 7] [] g Q := by
  have b4 := h.2.2.1.1.2.1
  have okW := niW_ok (dr := dr) h.2.2.1
  have w3 : niW dr t 3 = t 3 := okW.2 3 (by decide)
  have w4 : niW dr t 4 = t 4 := okW.2 4 (by decide)
  have nb := niN_b (segs := segs) (d := d) okW.1
  have okE := niE_ok (segs := segs) (d := d) okW.1
  have n9 := okE.1.1.2.2.2.1
  have fin : ∀ (x3 : Int) (g1 : Nat → Nat → Int), CT_scratch g0 t0 g1 (niE segs d (niW dr t)) → fx W r 5 161 24 [346, 178, fI d, fI x3, 7] [fI (niN segs d (niW dr t))] g1 Q := fun x3 g1 h1 => by
    have k9 := ni9_ok (v := if 9999 < niE segs d (niW dr t) 9 + 1 then 9999 else niE segs d (niW dr t) 9 + 1) okE.1 (by split <;> omega) (by split <;> omega)
    unfold niT at kq
    generalize niN segs d (niW dr t) = n at *
    generalize niE segs d (niW dr t) = t2 at *
    have e9 : g1 22 9 = t2 9 := h1.1.1.2.2.2.2.2.2.1
    refine fx_si 4 26 (by decide +kernel) (Or.inr (fI_n4 _)) rfl ?_
    dsimp only [List.set]
    refine fx_la 1 27 (v := 178) (by decide +kernel) rfl (by decide +kernel) ?_
    refine fx_ci (9999) 30 (by decide +kernel) ?_
    refine fx_la 1 31 (v := 178) (by decide +kernel) rfl (by decide +kernel) ?_
    refine fx_gi 178 22 9 34 (by decide +kernel) ?_
    rw [e9]
    refine fx_ci (1) 35 (by decide +kernel) ?_
    refine fx_add 36 (by decide +kernel) rfl ?_
    refine fx_c2 158 22 39 0 [] (f_q22 (by decide +kernel)) (by decide) (fI_n4 _) (fI_n4 _) rfl (by first | decide | omega) ?_
    refine sp_min9 (by unfold fR; omega) (fK1 ?_)
    have b6 := RTb_f (j := 9) (k := 9) (v := if 9999 < t2 9 + 1 then 9999 else t2 9 + 1) h1.1 (by omega)
    generalize hv : (if 9999 < t2 9 + 1 then 9999 else t2 9 + 1) = v at kq k9 b6 ⊢
    have hv2 : 0 ≤ v ∧ v ≤ 9999 := by rw [← hv]; split <;> omega
    refine fx_pi 178 22 9 42 (by decide +kernel) (by unfold fR; omega) ?_
    refine fx_li 4 44 (by decide +kernel) rfl ?_
    refine fx_ret (by decide +kernel) ?_
    exact kq _ ⟨b6, h1.2.1.u (by decide), k9.1, h1.2.2.2.tr k9.2⟩
  have mid : ∀ (x3 : Int) (g1 : Nat → Nat → Int), CT_scratch g0 t0 g1 (niW dr t) → fx W r 5 161 9 [346, 178, fI d, fI x3, 7] [] g1 Q := fun x3 g1 h1 => by
    by_cases dm : d = -1
    · have e1 : niE segs d (niW dr t) = niW dr t := if_pos dm
      have e2 : niN segs d (niW dr t) = 0 := if_pos dm
      refine fx_li 2 10 (by decide +kernel) rfl ?_
      refine fx_cn (-1) 11 (by decide +kernel) (fun v10 c10 => ?_)
      refine fx_ine 18 14 (by decide +kernel) (by unfold fR; omega) (by unfold fR; omega) (fun h11 => ?_) (fun h11 => ?_)
      · exfalso; omega
      · refine fx_ci (0) 15 (by decide +kernel) ?_
        refine fx_go 24 (by decide +kernel) ?_
        have f := fin x3 g1 (by rw [e1]; exact h1)
        rw [e2] at f
        exact f
    · have hd2 : 0 ≤ d ∧ d < t 4 := by omega
      have e1 : niE segs d (niW dr t) = eaL segs d (t 3).toNat 0 (niW dr t) := by unfold niE; rw [if_neg dm, w3]
      have e2 : niN segs d (niW dr t) = eaN segs d (t 3).toNat 0 (niW dr t) 0 := by unfold niN; rw [if_neg dm, w3]
      refine fx_li 2 10 (by decide +kernel) rfl ?_
      refine fx_cn (-1) 11 (by decide +kernel) (fun v10 c10 => ?_)
      refine fx_ine 18 14 (by decide +kernel) (by unfold fR; omega) (by unfold fR; omega) (fun h11 => ?_) (fun h11 => ?_)
      · refine fx_la 0 19 (v := 346) (by decide +kernel) rfl (by decide +kernel) ?_
        refine fx_la 1 20 (v := 178) (by decide +kernel) rfl (by decide +kernel) ?_
        refine fx_li 2 21 (by decide +kernel) rfl ?_
        refine fx_c3 165 21 24 4 [7, 7] (by decide +kernel) (by decide) (by decide) (by decide) (fI_n4 _) rfl (by first | decide | omega) ?_
        refine fx_ci (0) 1 (by decide +kernel) ?_
        refine fx_si 3 2 (by decide +kernel) (Or.inr (fI_n4 _)) rfl ?_
        dsimp only [List.set]
        refine fx_ci (0) 3 (by decide +kernel) ?_
        refine fx_si 4 5 (by decide +kernel) (Or.inr (fI_n4 _)) rfl ?_
        dsimp only [List.set]
        refine sp_ceat_1_scratch (R := niE segs d (niW dr t)) (N := niN segs d (niW dr t)) hn hd2.1 (by omega) (fun g2 h2 => fK1 ?_) (t 3).toNat 0 (niW dr t) 0 g1 (by rw [w3]; omega) (by rw [w4]; exact hd2.2) h1 (by decide) (by decide) e1.symm e2.symm
        exact fin x3 g2 h2
      · exfalso; omega
  cases dr with
  | false =>
    rw [show (cond false (1 : Int) 0) = 0 from rfl]
    refine fx_li 3 1 (by decide +kernel) rfl ?_
    refine fx_zeq 9 4 (by decide +kernel) (by unfold fR; omega) (fun _ => ?_) (fun hc => absurd hc (by decide))
    exact mid 0 g h
  | true =>
    rw [show (cond true (1 : Int) 0) = 1 from rfl]
    refine fx_li 3 1 (by decide +kernel) rfl ?_
    refine fx_zeq 9 4 (by decide +kernel) (by unfold fR; omega) (fun hc => absurd hc (by decide)) (fun _ => ?_)
    refine fx_la 0 5 (v := 346) (by decide +kernel) rfl (by decide +kernel) ?_
    refine fx_la 1 6 (v := 178) (by decide +kernel) rfl (by decide +kernel) ?_
    refine fx_c2 162 21 9 2 [7, 7, 7] (by decide +kernel) (by decide) (by decide) (by decide) rfl (by first | decide | omega) ?_
    refine sp_cwander_scratch hn h (fun g1 h1 => fK0 ?_)
    exact mid 1 g1 h1
theorem sp_cnights_1_scratch {N : Int} {dr : Bool} {nn : Nat} (hn : CN_scratch g0 t0 segs) (h60 : nn ≤ 60) (kq : ∀ g', CT_scratch g0 t0 g' R → Q 1 (fI N) g') : ∀ (l k : Nat) (t : Nat → Int) (a : Int) (g : Nat → Nat → Int) (x6 : Nat), k + l = nn → CT_scratch g0 t0 g t → 0 ≤ a → a ≤ 8 * k → goL segs dr l t = R → goN segs dr l t a = N → fx W r 6 178 6 [346, 178, fI (nn : Int), fI (cond dr 1 0), fI a, fI (k : Int), x6] [] g Q
  | l, k, t, a, g, x6, hl, h, a0, a1, e, en => by
    obtain ⟨hH, -, -⟩ := h.H hn
    have b4 := h.2.2.1.1.2.1
    have b9 := h.2.2.1.1.2.2.2.1
    have db := dsT_b h.2.2.1
    have ed4 : g 3 5 = t 4 := hH.2.1
    have e9 : g 22 9 = t 9 := h.1.1.2.2.2.2.2.2.1
    have hdr : (cond dr (1 : Int) 0) = 0 ∨ (cond dr (1 : Int) 0) = 1 := by cases dr <;> simp
    refine fx_li 5 8 (by decide +kernel) rfl ?_
    refine fx_li 2 9 (by decide +kernel) rfl ?_
    refine fx_ige 59 12 (by decide +kernel) (by unfold fR; omega) (by unfold fR; omega) (fun h9 => ?_) (fun h9 => ?_)
    · refine fx_li 4 61 (by decide +kernel) rfl ?_
      refine fx_ret (by decide +kernel) ?_
      have e0 : l = 0 := by omega
      subst e0
      have e : t = R := e
      have en : a = N := en
      subst e en
      exact kq g h
    · obtain ⟨l', rfl⟩ : ∃ l', l = l' + 1 := ⟨l - 1, by omega⟩
      have e : goL segs dr l' (niT segs (dsT t) dr t) = R := e
      have en : goN segs dr l' (niT segs (dsT t) dr t) (a + niN segs (dsT t) (niW dr t)) = N := en
      have nb := niN_b (segs := segs) (d := dsT t) (niW_ok (dr := dr) h.2.2.1).1
      refine fx_la 0 13 (v := 346) (by decide +kernel) rfl (by decide +kernel) ?_
      refine fx_gp 346 43 0 26 16 (by decide +kernel) ?_
      refine fx_gi 26 3 5 19 (by decide +kernel) ?_
      rw [ed4]
      refine fx_zne 26 22 (by decide +kernel) (by first | exact hg 3 5 (by decide) (by decide +kernel) (by decide +kernel) | (unfold fR; omega)) (fun h19 => ?_) (fun h19 => ?_)
      · refine fx_la 1 27 (v := 178) (by decide +kernel) rfl (by decide +kernel) ?_
        refine fx_gi 178 22 9 30 (by decide +kernel) ?_
        rw [e9]
        refine fx_la 0 31 (v := 346) (by decide +kernel) rfl (by decide +kernel) ?_
        refine fx_gp 346 43 0 26 34 (by decide +kernel) ?_
        refine fx_gi 26 3 5 37 (by decide +kernel) ?_
        rw [ed4]
        refine fx_bin 10 38 (by decide +kernel) rfl (fun _ => i32_n0 (by omega) (by omega)) ?_
        have ed : dsT t = t 9 % t 4 := if_neg h19
        rw [fop_rm b9.1 (by omega) (by omega) (by omega), ← ed]
        refine fx_si 6 40 (by decide +kernel) (Or.inr (fI_n4 _)) rfl ?_
        dsimp only [List.set]
        refine fx_li 4 42 (by decide +kernel) rfl ?_
        refine fx_la 0 43 (v := 346) (by decide +kernel) rfl (by decide +kernel) ?_
        refine fx_la 1 44 (v := 178) (by decide +kernel) rfl (by decide +kernel) ?_
        refine fx_li 6 46 (by decide +kernel) rfl ?_
        refine fx_li 3 47 (by decide +kernel) rfl ?_
        refine fx_c4 161 21 50 5 [7] (by decide +kernel) (by decide) (by decide) (by decide) (fI_n4 _) (fI_n4 _) rfl (by first | decide | omega) ?_
        refine sp_cnight_scratch hn h (by omega) (fun g2 h2 => fK1 ?_)
        refine fx_add 51 (by decide +kernel) rfl ?_
        refine fx_si 4 53 (by decide +kernel) (Or.inr (fI_n4 _)) rfl ?_
        dsimp only [List.set]
        refine fx_inc 5 56 (1) (by decide +kernel) rfl (Or.inr (fI_n4 _)) rfl ?_
        dsimp only [List.set]
        refine fx_go 6 (by decide +kernel) ?_
        exact sp_cnights_1_scratch hn h60 kq l' (k + 1) _ _ g2 _ (by omega) h2 (by omega) (by omega) e en
      · refine fx_cn (-1) 23 (by decide +kernel) (fun v22 c22 => ?_)
        refine fx_go 38 (by decide +kernel) ?_
        have ed : dsT t = -1 := if_pos h19
        rw [c22, ← ed]
        refine fx_si 6 40 (by decide +kernel) (Or.inr (fI_n4 _)) rfl ?_
        dsimp only [List.set]
        refine fx_li 4 42 (by decide +kernel) rfl ?_
        refine fx_la 0 43 (v := 346) (by decide +kernel) rfl (by decide +kernel) ?_
        refine fx_la 1 44 (v := 178) (by decide +kernel) rfl (by decide +kernel) ?_
        refine fx_li 6 46 (by decide +kernel) rfl ?_
        refine fx_li 3 47 (by decide +kernel) rfl ?_
        refine fx_c4 161 21 50 5 [7] (by decide +kernel) (by decide) (by decide) (by decide) (fI_n4 _) (fI_n4 _) rfl (by first | decide | omega) ?_
        refine sp_cnight_scratch hn h (by omega) (fun g2 h2 => fK1 ?_)
        refine fx_add 51 (by decide +kernel) rfl ?_
        refine fx_si 4 53 (by decide +kernel) (Or.inr (fI_n4 _)) rfl ?_
        dsimp only [List.set]
        refine fx_inc 5 56 (1) (by decide +kernel) rfl (Or.inr (fI_n4 _)) rfl ?_
        dsimp only [List.set]
        refine fx_go 6 (by decide +kernel) ?_
        exact sp_cnights_1_scratch hn h60 kq l' (k + 1) _ _ g2 _ (by omega) h2 (by omega) (by omega) e en
theorem sp_cnights_scratch {g : Nat → Nat → Int} {t : Nat → Int} {dr : Bool} {nn : Nat} (hn : CN_scratch g0 t0 segs) (h60 : nn ≤ 60) (h : CT_scratch g0 t0 g t) (kq : ∀ g', CT_scratch g0 t0 g' (goL segs dr nn t) → Q 1 (fI (goN segs dr nn t 0)) g') : fx W r 6 178 0 [346, 178, fI (nn : Int), fI (cond dr 1 0), 7, 7, 7] [] g Q := by
  refine fx_ci (0) 1 (by decide +kernel) ?_
  refine fx_si 4 3 (by decide +kernel) (Or.inr (fI_n4 _)) rfl ?_
  dsimp only [List.set]
  refine fx_ci (0) 4 (by decide +kernel) ?_
  refine fx_si 5 6 (by decide +kernel) (Or.inr (fI_n4 _)) rfl ?_
  dsimp only [List.set]
  exact sp_cnights_1_scratch hn h60 kq nn 0 t 0 g _ (by omega) h (by decide) (by decide) rfl rfl
end FIK_scratch
