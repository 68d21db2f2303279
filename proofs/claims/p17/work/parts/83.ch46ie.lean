/-! fx: what is eaten by the law, what may be taken off: the class -/
noncomputable def vM (F : Nat → Int) (s : List Int × Int × Int) : Int := if lnV F s.1 = 0 then 0 else if s.2.1 = 0 then s.2.2 else if s.2.1 = 1 then -s.2.2 else 0
noncomputable def lwM (F : Nat → Int) : List (List Int × Int × Int) → Int → Int
  | [], a => a
  | s :: l, a => lwM F l (a + vM F s)
def lwH (segs : List (List Int × Int × Int)) : Bool := segs.any (fun s => decide (s.2.1 = 2))
noncomputable def lwO (F : Nat → Int) (segs : List (List Int × Int × Int)) : Bool := segs.any (fun s => decide (s.2.1 = 2 ∧ lnV F s.1 ≠ 0))
theorem dr_c {segs : List (List Int × Int × Int)} {i : Nat} (h : i < segs.length) : segs.drop i = segs.getD i ([], 0, 0) :: segs.drop (i + 1) := by
  rw [List.drop_eq_getElem_cons h, List.getD_eq_getElem?_getD, List.getElem?_eq_getElem h]
  rfl
theorem sg_m {F : Nat → Int} {segs : List (List Int × Int × Int)} (h : SgOK F segs) {i : Nat} (hi : i < segs.length) : LnOK F (segs.getD i ([], 0, 0)).1 ∧ ((segs.getD i ([], 0, 0)).2.1 = 0 ∨ (segs.getD i ([], 0, 0)).2.1 = 1 ∨ (segs.getD i ([], 0, 0)).2.1 = 2) ∧ 0 ≤ (segs.getD i ([], 0, 0)).2.2 ∧ (segs.getD i ([], 0, 0)).2.2 ≤ 30 := by
  refine h _ ?_
  rw [List.getD_eq_getElem?_getD, List.getElem?_eq_getElem hi]
  exact List.getElem_mem hi
theorem vM_b {F : Nat → Int} {s : List Int × Int × Int} (h : 0 ≤ s.2.2 ∧ s.2.2 ≤ 30) : -30 ≤ vM F s ∧ vM F s ≤ 30 := by
  unfold vM
  split
  · omega
  · split
    · omega
    · split <;> omega
theorem lwM_b {F : Nat → Int} : ∀ (l : List (List Int × Int × Int)) (a : Int), (∀ s ∈ l, 0 ≤ s.2.2 ∧ s.2.2 ≤ 30) → a - 30 * l.length ≤ lwM F l a ∧ lwM F l a ≤ a + 30 * l.length
  | [], a, _ => by show a - 30 * 0 ≤ a ∧ a ≤ a + 30 * 0; omega
  | s :: l, a, h => by
    have h1 := vM_b (F := F) (h s (List.mem_cons_self ..))
    have h2 := lwM_b (F := F) l (a + vM F s) (fun q hq => h q (List.mem_cons_of_mem _ hq))
    show a - 30 * ((l.length + 1 : Nat) : Int) ≤ lwM F l (a + vM F s) ∧ lwM F l (a + vM F s) ≤ a + 30 * ((l.length + 1 : Nat) : Int)
    omega
/-- the class's law: lines, at most 12 -/
def LwL (g : Nat → Nat → Int) (segs : List (List Int × Int × Int)) : Prop := (g 8 7 = (segs.length : Int) ∨ (segs = [] ∧ g 8 7 = -1)) ∧ segs.length ≤ 12 ∧ LwC 8 g segs
theorem LwL.cg {g g' : Nat → Nat → Int} {segs : List (List Int × Int × Int)} (h : LwL g segs) (e7 : g' 8 7 = g 8 7) (e : ∀ i j, 1 ≤ i → i ≤ 5 → g' (8 + i) j = g (8 + i) j) : LwL g' segs := by
  obtain ⟨h1, h2, h3⟩ := h
  refine ⟨by rw [e7]; exact h1, h2, fun i hi => ?_⟩
  obtain ⟨b1, b2, f0, b3, b4, b5, b6⟩ := h3 i hi
  exact ⟨by rw [e _ _ (by decide) (by decide)]; exact b1, by rw [e _ _ (by decide) (by decide)]; exact b2, f0, by rw [e _ _ (by decide) (by decide)]; exact b3, by rw [e _ _ (by decide) (by decide)]; exact b4, b5, fun k hk => by rw [e _ _ (by decide) (by decide)]; exact b6 k hk⟩
theorem LwL.st {g g' : Nat → Nat → Int} {segs : List (List Int × Int × Int)} (h : LwL g segs) (hs : fSt g g') : LwL g' segs := h.cg (hs _ _ (by decide)) (fun i j i1 i2 => hs _ _ (by omega))
/-- facts and stack alone are written -/
def fFS (g g' : Nat → Nat → Int) : Prop := ∀ c j, c ≠ 14 → c ≠ 15 → g' c j = g c j
theorem fFS.rf {g : Nat → Nat → Int} : fFS g g := fun _ _ _ _ => rfl
theorem fFS.tr {g g1 g2 : Nat → Nat → Int} (h : fFS g g1) (h2 : fFS g1 g2) : fFS g g2 := fun c j a b => by rw [h2 c j a b, h c j a b]
theorem fSt.fs {g g' : Nat → Nat → Int} (h : fSt g g') : fFS g g' := fun c j _ b => h c j b
theorem fC_st {g g' : Nat → Nat → Int} (h : fSt g g') : fC g' = fC g := by
  funext k
  exact h _ _ (by decide)
section FIE
variable {W : ax_W} {r : Nat} {g : Nat → Nat → Int} {Q : Nat → Nat → (Nat → Nat → Int) → Prop} {segs : List (List Int × Int × Int)} {F : Nat → Int}
theorem sp_lhold {i : Nat} {s : List Int × Int × Int} (h : LwL g segs) (hC : fC g = F) (hS : SgOK F segs) (hi : i < segs.length) (hs : segs.getD i ([], 0, 0) = s) (kq : ∀ g', fSt g g' → Q 1 (fI (if lnV F s.1 = 0 then 0 else 1)) g') : fx W r 1 130 0 [66, fI (i : Int), 7, 7, 7] [] g Q := by
  subst hC hs
  obtain ⟨-, -, f0, b3, b4, b5, b6⟩ := h.2.2 i hi
  exact sp_lholds (by have := h.2.1; omega) b3 b4 b5 b6 (sg_m hS hi).1 kq
theorem LwL.ln {g' : Nat → Nat → Int} (h : LwL g segs) (hx : fSt g g') (i : Nat) : ((i : Int) < g' 8 7 ↔ i < segs.length) ∧ -1 ≤ g' 8 7 ∧ g' 8 7 ≤ 12 := by
  rw [hx _ _ (by decide)]
  have h12 := h.2.1
  rcases h.1 with q | ⟨q1, q2⟩
  · rw [q]; omega
  · rw [q2, q1]
    exact ⟨⟨fun t => by omega, fun t => absurd t (Nat.not_lt_zero _)⟩, by decide, by decide⟩
theorem LwL.kd {g' : Nat → Nat → Int} {i : Nat} {s : List Int × Int × Int} (h : LwL g segs) (hx : fSt g g') (hi : i < segs.length) (hs : segs.getD i ([], 0, 0) = s) : g' 9 i = s.2.1 ∧ g' 10 i = s.2.2 := by
  subst hs
  obtain ⟨b1, b2, -⟩ := h.2.2 i hi
  rw [hx _ _ (by decide), hx _ _ (by decide)]
  exact ⟨b1, b2⟩
theorem sp_more_1 {R : Int} (h : LwL g segs) (hC : fC g = F) (hS : SgOK F segs) (kq : ∀ g', fSt g g' → Q 1 (fI R) g') : ∀ (l i : Nat) (a : Int) (g' : Nat → Nat → Int), i + l = segs.length → fSt g g' → -30 * i ≤ a → a ≤ 30 * i → lwM F (segs.drop i) a = R → fx W r 2 144 4 [66, fI a, fI (i : Int)] [] g' Q
  | l, i, a, g', hl, hx, a0, a1, e => by
    have h12 := h.2.1
    have hln := h.ln hx i
    refine fx_li 2 5 (by decide +kernel) rfl ?_
    refine fx_la 0 6 (v := 66) (by decide +kernel) rfl (by decide +kernel) ?_
    refine fx_gi 66 8 7 9 (by decide +kernel) ?_
    refine fx_ige 64 12 (by decide +kernel) (by unfold fR; omega) (by first | exact hg 8 7 (by decide) (by decide +kernel) (by decide +kernel) | (unfold fR; omega)) (fun h9 => ?_) (fun h9 => ?_)
    · refine fx_li 1 65 (by decide +kernel) rfl ?_
      refine fx_ret (by decide +kernel) ?_
      have e0 : ¬ i < segs.length := fun t => by have := hln.1.mpr t; omega
      rw [List.drop_eq_nil_of_le (by omega)] at e
      have e : a = R := e
      subst e
      exact kq g' hx
    · have i1 : i < segs.length := hln.1.mp (by omega)
      obtain ⟨l', rfl⟩ : ∃ l', l = l' + 1 := ⟨l - 1, by omega⟩
      obtain ⟨s, hs⟩ : ∃ s, segs.getD i ([], 0, 0) = s := ⟨_, rfl⟩
      have hk := h.kd hx i1 hs
      obtain ⟨s1, s2, s3, s4⟩ := sg_m hS i1
      rw [hs] at s1 s2 s3 s4
      rw [dr_c i1, hs] at e
      have e : lwM F (segs.drop (i + 1)) (a + vM F s) = R := e
      refine fx_la 0 13 (v := 66) (by decide +kernel) rfl (by decide +kernel) ?_
      refine fx_gp 66 8 0 74 16 (by decide +kernel) ?_
      refine fx_li 2 17 (by decide +kernel) rfl ?_
      refine fx_al 74 9 12 18 (by decide +kernel) rfl (by omega) (by omega) rfl ?_
      rw [show ((i : Int)).toNat = i from rfl, hk.1]
      refine fx_ci (2) 19 (by decide +kernel) ?_
      refine fx_ieq 58 22 (by decide +kernel) (by unfold fR; omega) (by unfold fR; omega) (fun h19 => ?_) (fun h19 => ?_)
      · refine fx_inc 2 61 (1) (by decide +kernel) rfl (Or.inr (fI_n4 _)) rfl ?_
        dsimp only [List.set]
        refine fx_go 4 (by decide +kernel) ?_
        have v0 : vM F s = 0 := by
          unfold vM
          split
          · rfl
          · rw [if_neg (by omega), if_neg (by omega)]
        rw [v0, Int.add_zero] at e
        exact sp_more_1 h hC hS kq l' (i + 1) a _ (by omega) hx (by omega) (by omega) e
      · refine fx_la 0 23 (v := 66) (by decide +kernel) rfl (by decide +kernel) ?_
        refine fx_li 2 24 (by decide +kernel) rfl ?_
        refine fx_c2 130 21 27 1 [7, 7, 7] (by decide +kernel) (by decide) (by decide) (fI_n4 _) rfl (by first | decide | omega) ?_
        refine sp_lhold (h.st hx) ((fC_st hx).trans hC) hS i1 hs (fun g2 hg2 => fK1 ?_)
        have hx2 := hx.tr hg2
        have hk2 := h.kd hx2 i1 hs
        have hz : (if lnV F s.1 = 0 then (0 : Int) else 1) = 0 ∨ (if lnV F s.1 = 0 then (0 : Int) else 1) = 1 := by split <;> simp
        generalize ez : (if lnV F s.1 = 0 then (0 : Int) else 1) = z at *
        refine fx_zeq 58 30 (by decide +kernel) (by unfold fR; omega) (fun h27 => ?_) (fun h27 => ?_)
        · have v0 : vM F s = 0 := by
            unfold vM
            split
            · rfl
            · rename_i n0
              rw [if_neg n0] at ez
              omega
          refine fx_inc 2 61 (1) (by decide +kernel) rfl (Or.inr (fI_n4 _)) rfl ?_
          dsimp only [List.set]
          refine fx_go 4 (by decide +kernel) ?_
          rw [v0, Int.add_zero] at e
          exact sp_more_1 h hC hS kq l' (i + 1) a _ (by omega) hx2 (by omega) (by omega) e
        · have v1 : ¬ lnV F s.1 = 0 := fun t => by
            rw [if_pos t] at ez
            omega
          refine fx_li 1 31 (by decide +kernel) rfl ?_
          refine fx_la 0 32 (v := 66) (by decide +kernel) rfl (by decide +kernel) ?_
          refine fx_gp 66 8 0 74 35 (by decide +kernel) ?_
          refine fx_li 2 36 (by decide +kernel) rfl ?_
          refine fx_al 74 9 12 37 (by decide +kernel) rfl (by omega) (by omega) rfl ?_
          try simp only [fu_app, fcy_app, Nat.reduceEqDiff, and_true, and_false, false_and, true_and, if_true, if_false, ite_true, ite_false, reduceIte, Int.reduceToNat, fx_simp0]
          rw [show ((i : Int)).toNat = i from rfl, hk2.1]
          refine fx_zne 49 40 (by decide +kernel) (by unfold fR; omega) (fun h37 => ?_) (fun h37 => ?_)
          · refine fx_la 0 50 (v := 66) (by decide +kernel) rfl (by decide +kernel) ?_
            refine fx_gp 66 8 1 82 53 (by decide +kernel) ?_
            refine fx_li 2 54 (by decide +kernel) rfl ?_
            refine fx_al 82 10 12 55 (by decide +kernel) rfl (by omega) (by omega) rfl ?_
            try simp only [fu_app, fcy_app, Nat.reduceEqDiff, and_true, and_false, false_and, true_and, if_true, if_false, ite_true, ite_false, reduceIte, Int.reduceToNat, fx_simp0]
            rw [show ((i : Int)).toNat = i from rfl, hk2.2]
            refine fx_ineg 56 (by decide +kernel) rfl ?_
            refine fx_add 57 (by decide +kernel) rfl ?_
            refine fx_si 1 58 (by decide +kernel) (Or.inr (f_n4p (v := 66) rfl (by decide))) rfl ?_
            dsimp only [List.set]
            refine fx_inc 2 61 (1) (by decide +kernel) rfl (Or.inr (fI_n4 _)) rfl ?_
            dsimp only [List.set]
            refine fx_go 4 (by decide +kernel) ?_
            have v0 : vM F s = -s.2.2 := by
              unfold vM
              rw [if_neg v1, if_neg (by omega), if_pos (by omega)]
            rw [v0] at e
            exact sp_more_1 h hC hS kq l' (i + 1) (a + -s.2.2) _ (by omega) hx2 (by omega) (by omega) e
          · refine fx_la 0 41 (v := 66) (by decide +kernel) rfl (by decide +kernel) ?_
            refine fx_gp 66 8 1 82 44 (by decide +kernel) ?_
            refine fx_li 2 45 (by decide +kernel) rfl ?_
            refine fx_al 82 10 12 46 (by decide +kernel) rfl (by omega) (by omega) rfl ?_
            try simp only [fu_app, fcy_app, Nat.reduceEqDiff, and_true, and_false, false_and, true_and, if_true, if_false, ite_true, ite_false, reduceIte, Int.reduceToNat, fx_simp0]
            rw [show ((i : Int)).toNat = i from rfl, hk2.2]
            refine fx_go 56 (by decide +kernel) ?_
            refine fx_add 57 (by decide +kernel) rfl ?_
            refine fx_si 1 58 (by decide +kernel) (Or.inr (f_n4p (v := 66) rfl (by decide))) rfl ?_
            dsimp only [List.set]
            refine fx_inc 2 61 (1) (by decide +kernel) rfl (Or.inr (fI_n4 _)) rfl ?_
            dsimp only [List.set]
            refine fx_go 4 (by decide +kernel) ?_
            have v0 : vM F s = s.2.2 := by
              unfold vM
              rw [if_neg v1, if_pos (by omega)]
            rw [v0] at e
            exact sp_more_1 h hC hS kq l' (i + 1) (a + s.2.2) _ (by omega) hx2 (by omega) (by omega) e
theorem sp_more (h : LwL g segs) (hC : fC g = F) (hS : SgOK F segs) (kq : ∀ g', fSt g g' → Q 1 (fI (lwM F segs 0)) g') : fx W r 2 144 0 [66, 7, 7] [] g Q := by
  refine fx_ci (0) 1 (by decide +kernel) ?_
  refine fx_si 1 2 (by decide +kernel) (Or.inr (f_n4p (v := 66) rfl (by decide))) rfl ?_
  dsimp only [List.set]
  refine fx_ci (0) 3 (by decide +kernel) ?_
  refine fx_si 2 4 (by decide +kernel) (Or.inr (fI_n4 _)) rfl ?_
  dsimp only [List.set]
  exact sp_more_1 h hC hS kq segs.length 0 0 g (by omega) fSt.rf (by decide) (by decide) rfl
theorem sp_hasOff_1 (h : LwL g segs) (kq : Q 1 (fI (if lwH segs = true then 1 else 0)) g) : ∀ (l i : Nat), i + l = segs.length → lwH (segs.drop i) = lwH segs → fx W r 0 126 2 [66, fI (i : Int)] [] g Q
  | l, i, hl, e => by
    have h12 := h.2.1
    have hln := h.ln fSt.rf i
    refine fx_rg (fun hg => ?_)
    refine fx_li 1 3 (by decide +kernel) rfl ?_
    refine fx_la 0 4 (v := 66) (by decide +kernel) rfl (by decide +kernel) ?_
    refine fx_gi 66 8 7 7 (by decide +kernel) ?_
    refine fx_ige 28 10 (by decide +kernel) (by unfold fR; omega) (by first | exact hg 8 7 (by decide) (by decide +kernel) (by decide +kernel) | (unfold fR; omega)) (fun h7 => ?_) (fun h7 => ?_)
    · refine fx_ci (0) 29 (by decide +kernel) ?_
      refine fx_retb (by decide +kernel) (by first | exact Or.inl rfl | exact Or.inr rfl | omega) ?_
      have e0 : ¬ i < segs.length := fun t => by have := hln.1.mpr t; omega
      rw [List.drop_eq_nil_of_le (by omega)] at e
      rw [← e] at kq
      exact kq
    · have i1 : i < segs.length := hln.1.mp (by omega)
      obtain ⟨l', rfl⟩ : ∃ l', l = l' + 1 := ⟨l - 1, by omega⟩
      obtain ⟨s, hs⟩ : ∃ s, segs.getD i ([], 0, 0) = s := ⟨_, rfl⟩
      have hk := h.kd fSt.rf i1 hs
      rw [dr_c i1, hs] at e
      have rk := hgA hg 12 (c := 9) (j := i) (by decide +kernel) (by omega)
      rw [hk.1] at rk
      unfold fR at rk
      refine fx_la 0 11 (v := 66) (by decide +kernel) rfl (by decide +kernel) ?_
      refine fx_gp 66 8 0 74 14 (by decide +kernel) ?_
      refine fx_li 1 15 (by decide +kernel) rfl ?_
      refine fx_al 74 9 12 16 (by decide +kernel) rfl (by omega) (by omega) rfl ?_
      rw [show ((i : Int)).toNat = i from rfl, hk.1]
      refine fx_ci (2) 17 (by decide +kernel) ?_
      refine fx_ine 22 20 (by decide +kernel) (by unfold fR; omega) (by unfold fR; omega) (fun h17 => ?_) (fun h17 => ?_)
      · refine fx_inc 1 25 (1) (by decide +kernel) rfl (Or.inr (f_n4p (v := 66) rfl (by decide))) rfl ?_
        dsimp only [List.set]
        refine fx_go 2 (by decide +kernel) ?_
        refine sp_hasOff_1 h kq l' (i + 1) (by omega) ?_
        rw [← e]
        show _ = (decide (s.2.1 = 2) || _)
        rw [decide_eq_false (by omega)]
        rfl
      · refine fx_ci (1) 21 (by decide +kernel) ?_
        refine fx_retb (by decide +kernel) (by first | exact Or.inl rfl | exact Or.inr rfl | omega) ?_
        have e : lwH (s :: segs.drop (i + 1)) = lwH segs := e
        have e2 : lwH segs = true := by
          rw [← e]
          show (decide (s.2.1 = 2) || _) = true
          rw [decide_eq_true (by omega)]
          rfl
        rw [if_pos e2] at kq
        exact kq
theorem sp_hasOff (h : LwL g segs) (kq : Q 1 (fI (if lwH segs = true then 1 else 0)) g) : fx W r 0 126 0 [66, 7] [] g Q := by
  refine fx_ci (0) 1 (by decide +kernel) ?_
  refine fx_si 1 2 (by decide +kernel) (Or.inr (f_n4p (v := 66) rfl (by decide))) rfl ?_
  dsimp only [List.set]
  exact sp_hasOff_1 h kq segs.length 0 (by omega) rfl
theorem sp_someOff_1 (h : LwL g segs) (hC : fC g = F) (hS : SgOK F segs) (kq : ∀ g', fSt g g' → Q 1 (fI (if lwO F segs = true then 1 else 0)) g') : ∀ (l i : Nat) (g' : Nat → Nat → Int), i + l = segs.length → fSt g g' → lwO F (segs.drop i) = lwO F segs → fx W r 2 129 2 [66, fI (i : Int)] [] g' Q
  | l, i, g', hl, hx, e => by
    have h12 := h.2.1
    have hln := h.ln hx i
    refine fx_li 1 3 (by decide +kernel) rfl ?_
    refine fx_la 0 4 (v := 66) (by decide +kernel) rfl (by decide +kernel) ?_
    refine fx_gi 66 8 7 7 (by decide +kernel) ?_
    refine fx_ige 36 10 (by decide +kernel) (by unfold fR; omega) (by first | exact hg 8 7 (by decide) (by decide +kernel) (by decide +kernel) | (unfold fR; omega)) (fun h7 => ?_) (fun h7 => ?_)
    · refine fx_ci (0) 37 (by decide +kernel) ?_
      refine fx_retb (by decide +kernel) (by first | exact Or.inl rfl | exact Or.inr rfl | omega) ?_
      have e0 : ¬ i < segs.length := fun t => by have := hln.1.mpr t; omega
      rw [List.drop_eq_nil_of_le (by omega)] at e
      have kq := kq g' hx
      rw [← e] at kq
      exact kq
    · have i1 : i < segs.length := hln.1.mp (by omega)
      obtain ⟨l', rfl⟩ : ∃ l', l = l' + 1 := ⟨l - 1, by omega⟩
      obtain ⟨s, hs⟩ : ∃ s, segs.getD i ([], 0, 0) = s := ⟨_, rfl⟩
      have hk := h.kd hx i1 hs
      obtain ⟨s1, s2, s3, s4⟩ := sg_m hS i1
      rw [hs] at s1 s2 s3 s4
      rw [dr_c i1, hs] at e
      refine fx_la 0 11 (v := 66) (by decide +kernel) rfl (by decide +kernel) ?_
      refine fx_gp 66 8 0 74 14 (by decide +kernel) ?_
      refine fx_li 1 15 (by decide +kernel) rfl ?_
      refine fx_al 74 9 12 16 (by decide +kernel) rfl (by omega) (by omega) rfl ?_
      rw [show ((i : Int)).toNat = i from rfl, hk.1]
      refine fx_ci (2) 17 (by decide +kernel) ?_
      refine fx_ine 30 20 (by decide +kernel) (by unfold fR; omega) (by unfold fR; omega) (fun h17 => ?_) (fun h17 => ?_)
      · refine fx_inc 1 33 (1) (by decide +kernel) rfl (Or.inr (f_n4p (v := 66) rfl (by decide))) rfl ?_
        dsimp only [List.set]
        refine fx_go 2 (by decide +kernel) ?_
        refine sp_someOff_1 h hC hS kq l' (i + 1) g' (by omega) hx ?_
        rw [← e]
        show _ = (decide (s.2.1 = 2 ∧ lnV F s.1 ≠ 0) || _)
        rw [decide_eq_false (by omega)]
        rfl
      · refine fx_la 0 21 (v := 66) (by decide +kernel) rfl (by decide +kernel) ?_
        refine fx_li 1 22 (by decide +kernel) rfl ?_
        refine fx_c2 130 21 25 1 [7, 7, 7] (by decide +kernel) (by decide) (by decide) (fI_n4 _) rfl (by first | decide | omega) ?_
        refine sp_lhold (h.st hx) ((fC_st hx).trans hC) hS i1 hs (fun g2 hg2 => fK1 ?_)
        have hx2 := hx.tr hg2
        have hz : (if lnV F s.1 = 0 then (0 : Int) else 1) = 0 ∨ (if lnV F s.1 = 0 then (0 : Int) else 1) = 1 := by split <;> simp
        generalize ez : (if lnV F s.1 = 0 then (0 : Int) else 1) = z at *
        refine fx_zeq 30 28 (by decide +kernel) (by unfold fR; omega) (fun h25 => ?_) (fun h25 => ?_)
        · refine fx_inc 1 33 (1) (by decide +kernel) rfl (Or.inr (f_n4p (v := 66) rfl (by decide))) rfl ?_
          dsimp only [List.set]
          refine fx_go 2 (by decide +kernel) ?_
          refine sp_someOff_1 h hC hS kq l' (i + 1) g2 (by omega) hx2 ?_
          rw [← e]
          show _ = (decide (s.2.1 = 2 ∧ lnV F s.1 ≠ 0) || _)
          rw [decide_eq_false (fun t => by rw [if_neg t.2] at ez; omega)]
          rfl
        · refine fx_ci (1) 29 (by decide +kernel) ?_
          refine fx_retb (by decide +kernel) (by first | exact Or.inl rfl | exact Or.inr rfl | omega) ?_
          have e2 : lwO F segs = true := by
            rw [← e]
            show (decide (s.2.1 = 2 ∧ lnV F s.1 ≠ 0) || _) = true
            rw [decide_eq_true ⟨by omega, fun t => by rw [if_pos t] at ez; omega⟩]
            rfl
          have kq := kq g2 hx2
          rw [if_pos e2] at kq
          exact kq
theorem sp_someOff (h : LwL g segs) (hC : fC g = F) (hS : SgOK F segs) (kq : ∀ g', fSt g g' → Q 1 (fI (if lwO F segs = true then 1 else 0)) g') : fx W r 2 129 0 [66, 7] [] g Q := by
  refine fx_ci (0) 1 (by decide +kernel) ?_
  refine fx_si 1 2 (by decide +kernel) (Or.inr (f_n4p (v := 66) rfl (by decide))) rfl ?_
  dsimp only [List.set]
  exact sp_someOff_1 h hC hS kq segs.length 0 g (by omega) fSt.rf rfl
theorem sp_ltell {k : Nat} {v : Int} (hk : k < 9) (hv : fR v) (kq : Q 0 0 (fu g 14 k v)) : fx W r 0 128 0 [66, fI (k : Int), fI v] [] g Q := by
  unfold fR at hv
  refine fx_li 1 1 (by decide +kernel) rfl ?_
  refine fx_zlt 17 4 (by decide +kernel) (by unfold fR; omega) (fun h1 => ?_) (fun h1 => ?_)
  · exfalso; omega
  · refine fx_li 1 5 (by decide +kernel) rfl ?_
    refine fx_ci (9) 7 (by decide +kernel) ?_
    refine fx_ige 17 10 (by decide +kernel) (by unfold fR; omega) (by unfold fR; omega) (fun h7 => ?_) (fun h7 => ?_)
    · exfalso; omega
    · refine fx_la 0 11 (v := 66) (by decide +kernel) rfl (by decide +kernel) ?_
      refine fx_gp 66 8 5 114 14 (by decide +kernel) ?_
      refine fx_li 1 15 (by decide +kernel) rfl ?_
      refine fx_li 2 16 (by decide +kernel) rfl ?_
      refine fx_as 114 14 9 17 (by decide +kernel) rfl (by omega) (by omega) rfl (by unfold fR; omega) ?_
      refine fx_vret (by decide +kernel) ?_
      exact kq
theorem sp_max0 {z : Int} (hz : fR z) (kq : Q 1 (fI (if 0 ≤ z then z else 0)) g) : fx W r 0 145 0 [fI 0, fI z] [] g Q := by
  unfold fR at hz
  refine fx_li 0 1 (by decide +kernel) rfl ?_
  refine fx_li 1 2 (by decide +kernel) rfl ?_
  refine fx_ilt 9 5 (by decide +kernel) (by unfold fR; omega) (by unfold fR; omega) (fun h2 => ?_) (fun h2 => ?_)
  · refine fx_li 1 10 (by decide +kernel) rfl ?_
    refine fx_ret (by decide +kernel) ?_
    rw [if_pos (by omega)] at kq
    exact kq
  · refine fx_li 0 6 (by decide +kernel) rfl ?_
    refine fx_go 10 (by decide +kernel) ?_
    refine fx_ret (by decide +kernel) ?_
    by_cases c : 0 ≤ z
    · rw [if_pos c] at kq
      have c0 : z = 0 := by omega
      subst c0
      exact kq
    · rw [if_neg c] at kq
      exact kq
/-- the facts of a person of the table table -/
def cFv_table (g : Nat → Nat → Int) (p : Nat) (pl d : Int) (k : Nat) : Int := [(p : Int), pl, d, g 20 p, g 18 p, g 4 p, g 16 9, if g 19 p = -1 then 0 else 1, if g 5 p = 3 then 1 else 0].getD (min k 8) 0
theorem sp_ctellLaw_table {p : Nat} {pl d : Int} (hp : p < 8) (hpl : fR pl) (hd : fR d) (kq : ∀ g', (∀ c j, c ≠ 14 → g' c j = g c j) → fC g' = cFv_table g p pl d → Q 0 0 g') : fx W r 1 127 0 [346, 130, fI (p : Int), fI pl, fI d] [] g Q := by
  refine fx_rg (fun hg => ?_)
  have r3 := hgA hg 8 (c := 20) (j := p) (by decide +kernel) hp
  have r4 := hgA hg 8 (c := 18) (j := p) (by decide +kernel) hp
  have r5 := hgA hg 8 (c := 4) (j := p) (by decide +kernel) hp
  have r7 := hgA hg 8 (c := 19) (j := p) (by decide +kernel) hp
  have r8 := hgA hg 8 (c := 5) (j := p) (by decide +kernel) hp
  have r6 := hg 16 9 (by decide) (by decide +kernel) (by decide +kernel)
  have r7' := r7
  have r8' := r8
  unfold fR at r7' r8'
  have fin : ∀ (a b : Int) (G : Nat → Nat → Int), a = (if g 19 p = -1 then 0 else 1) → b = (if g 5 p = 3 then 1 else 0) → G = fu (fu (fu (fu (fu (fu (fu (fu (fu g 14 0 (p : Int)) 14 1 pl) 14 2 d) 14 3 (g 20 p)) 14 4 (g 18 p)) 14 5 (g 4 p)) 14 6 (g 16 9)) 14 7 a) 14 8 b → Q 0 0 G := fun a b G ha hb hG => by
    subst hG
    refine kq _ (fun c j hc => ?_) ?_
    · rw [fu_nc hc, fu_nc hc, fu_nc hc, fu_nc hc, fu_nc hc, fu_nc hc, fu_nc hc, fu_nc hc, fu_nc hc]
    · funext k
      unfold fC cFv_table
      have hk : min k 8 ≤ 8 := Nat.min_le_right _ _
      generalize min k 8 = q at hk
      rcases (by omega : q = 0 ∨ q = 1 ∨ q = 2 ∨ q = 3 ∨ q = 4 ∨ q = 5 ∨ q = 6 ∨ q = 7 ∨ q = 8) with rfl | rfl | rfl | rfl | rfl | rfl | rfl | rfl | rfl
      · rw [fu_nj (by decide), fu_nj (by decide), fu_nj (by decide), fu_nj (by decide), fu_nj (by decide), fu_nj (by decide), fu_nj (by decide), fu_nj (by decide), fu_eq]; rfl
      · rw [fu_nj (by decide), fu_nj (by decide), fu_nj (by decide), fu_nj (by decide), fu_nj (by decide), fu_nj (by decide), fu_nj (by decide), fu_eq]; rfl
      · rw [fu_nj (by decide), fu_nj (by decide), fu_nj (by decide), fu_nj (by decide), fu_nj (by decide), fu_nj (by decide), fu_eq]; rfl
      · rw [fu_nj (by decide), fu_nj (by decide), fu_nj (by decide), fu_nj (by decide), fu_nj (by decide), fu_eq]; rfl
      · rw [fu_nj (by decide), fu_nj (by decide), fu_nj (by decide), fu_nj (by decide), fu_eq]; rfl
      · rw [fu_nj (by decide), fu_nj (by decide), fu_nj (by decide), fu_eq]; rfl
      · rw [fu_nj (by decide), fu_nj (by decide), fu_eq]; rfl
      · rw [fu_nj (by decide), fu_eq]; exact ha
      · rw [fu_eq]; exact hb
  refine fx_la 0 1 (v := 346) (by decide +kernel) rfl (by decide +kernel) ?_
  refine fx_gp 346 43 1 66 4 (by decide +kernel) ?_
  refine fx_ci (0) 5 (by decide +kernel) ?_
  refine fx_li 2 6 (by decide +kernel) rfl ?_
  refine fx_c3 128 21 9 0 [] (by decide +kernel) (by decide) (by decide) (fI_n4 _) (fI_n4 _) rfl (by first | decide | omega) ?_
  refine sp_ltell (k := 0) (by decide) (by unfold fR; omega) (fK0 ?_)
  refine fx_la 0 10 (v := 346) (by decide +kernel) rfl (by decide +kernel) ?_
  refine fx_gp 346 43 1 66 13 (by decide +kernel) ?_
  refine fx_ci (1) 14 (by decide +kernel) ?_
  refine fx_li 3 15 (by decide +kernel) rfl ?_
  refine fx_c3 128 21 18 0 [] (by decide +kernel) (by decide) (by decide) (fI_n4 _) (fI_n4 _) rfl (by first | decide | omega) ?_
  refine sp_ltell (k := 1) (by decide) hpl (fK0 ?_)
  refine fx_la 0 19 (v := 346) (by decide +kernel) rfl (by decide +kernel) ?_
  refine fx_gp 346 43 1 66 22 (by decide +kernel) ?_
  refine fx_ci (2) 23 (by decide +kernel) ?_
  refine fx_li 4 25 (by decide +kernel) rfl ?_
  refine fx_c3 128 21 28 0 [] (by decide +kernel) (by decide) (by decide) (fI_n4 _) (fI_n4 _) rfl (by first | decide | omega) ?_
  refine sp_ltell (k := 2) (by decide) hd (fK0 ?_)
  refine fx_la 0 29 (v := 346) (by decide +kernel) rfl (by decide +kernel) ?_
  refine fx_gp 346 43 1 66 32 (by decide +kernel) ?_
  refine fx_ci (3) 33 (by decide +kernel) ?_
  refine fx_la 1 34 (v := 130) (by decide +kernel) rfl (by decide +kernel) ?_
  refine fx_gp 130 16 3 162 37 (by decide +kernel) ?_
  refine fx_li 2 38 (by decide +kernel) rfl ?_
  refine fx_al 162 20 8 39 (by decide +kernel) rfl (by omega) (by omega) rfl ?_
  try simp only [fu_app, fcy_app, Nat.reduceEqDiff, and_true, and_false, false_and, true_and, if_true, if_false, ite_true, ite_false, reduceIte, Int.reduceToNat, fx_simp0]
  rw [show ((p : Int)).toNat = p from rfl]
  refine fx_c3 128 21 42 0 [] (by decide +kernel) (by decide) (by decide) (fI_n4 _) (fI_n4 _) rfl (by first | decide | omega) ?_
  refine sp_ltell (k := 3) (by decide) (by first | exact r3 | simpa [fu_app] using r3) (fK0 ?_)
  refine fx_la 0 43 (v := 346) (by decide +kernel) rfl (by decide +kernel) ?_
  refine fx_gp 346 43 1 66 46 (by decide +kernel) ?_
  refine fx_ci (4) 47 (by decide +kernel) ?_
  refine fx_la 1 48 (v := 130) (by decide +kernel) rfl (by decide +kernel) ?_
  refine fx_gp 130 16 1 146 51 (by decide +kernel) ?_
  refine fx_li 2 52 (by decide +kernel) rfl ?_
  refine fx_al 146 18 8 53 (by decide +kernel) rfl (by omega) (by omega) rfl ?_
  try simp only [fu_app, fcy_app, Nat.reduceEqDiff, and_true, and_false, false_and, true_and, if_true, if_false, ite_true, ite_false, reduceIte, Int.reduceToNat, fx_simp0]
  rw [show ((p : Int)).toNat = p from rfl]
  refine fx_c3 128 21 56 0 [] (by decide +kernel) (by decide) (by decide) (fI_n4 _) (fI_n4 _) rfl (by first | decide | omega) ?_
  refine sp_ltell (k := 4) (by decide) (by first | exact r4 | simpa [fu_app] using r4) (fK0 ?_)
  refine fx_la 0 57 (v := 346) (by decide +kernel) rfl (by decide +kernel) ?_
  refine fx_gp 346 43 1 66 60 (by decide +kernel) ?_
  refine fx_ci (5) 61 (by decide +kernel) ?_
  refine fx_la 0 62 (v := 346) (by decide +kernel) rfl (by decide +kernel) ?_
  refine fx_gp 346 43 0 26 65 (by decide +kernel) ?_
  refine fx_gp 26 3 0 34 68 (by decide +kernel) ?_
  refine fx_li 2 69 (by decide +kernel) rfl ?_
  refine fx_al 34 4 8 70 (by decide +kernel) rfl (by omega) (by omega) rfl ?_
  try simp only [fu_app, fcy_app, Nat.reduceEqDiff, and_true, and_false, false_and, true_and, if_true, if_false, ite_true, ite_false, reduceIte, Int.reduceToNat, fx_simp0]
  rw [show ((p : Int)).toNat = p from rfl]
  refine fx_c3 128 21 73 0 [] (by decide +kernel) (by decide) (by decide) (fI_n4 _) (fI_n4 _) rfl (by first | decide | omega) ?_
  refine sp_ltell (k := 5) (by decide) (by first | exact r5 | simpa [fu_app] using r5) (fK0 ?_)
  refine fx_la 0 74 (v := 346) (by decide +kernel) rfl (by decide +kernel) ?_
  refine fx_gp 346 43 1 66 77 (by decide +kernel) ?_
  refine fx_ci (6) 79 (by decide +kernel) ?_
  refine fx_la 1 80 (v := 130) (by decide +kernel) rfl (by decide +kernel) ?_
  refine fx_gi 130 16 9 83 (by decide +kernel) ?_
  try simp only [fu_app, fcy_app, Nat.reduceEqDiff, and_true, and_false, false_and, true_and, if_true, if_false, ite_true, ite_false, reduceIte, Int.reduceToNat, fx_simp0]
  refine fx_c3 128 21 86 0 [] (by decide +kernel) (by decide) (by decide) (fI_n4 _) (fI_n4 _) rfl (by first | decide | omega) ?_
  refine sp_ltell (k := 6) (by decide) (by first | exact r6 | simpa [fu_app] using r6) (fK0 ?_)
  refine fx_la 0 87 (v := 346) (by decide +kernel) rfl (by decide +kernel) ?_
  refine fx_gp 346 43 1 66 90 (by decide +kernel) ?_
  refine fx_ci (7) 92 (by decide +kernel) ?_
  refine fx_la 1 93 (v := 130) (by decide +kernel) rfl (by decide +kernel) ?_
  refine fx_gp 130 16 2 154 96 (by decide +kernel) ?_
  refine fx_li 2 97 (by decide +kernel) rfl ?_
  refine fx_al 154 19 8 98 (by decide +kernel) rfl (by omega) (by omega) rfl ?_
  try simp only [fu_app, fcy_app, Nat.reduceEqDiff, and_true, and_false, false_and, true_and, if_true, if_false, ite_true, ite_false, reduceIte, Int.reduceToNat, fx_simp0]
  rw [show ((p : Int)).toNat = p from rfl]
  refine fx_ci (-1) 99 (by decide +kernel) ?_
  refine fx_ine 106 102 (by decide +kernel) (by unfold fR; omega) (by unfold fR; omega) (fun h99 => ?_) (fun h99 => ?_)
  · refine fx_ci (1) 107 (by decide +kernel) ?_
    refine fx_c3 128 21 110 0 [] (by decide +kernel) (by decide) (by decide) (fI_n4 _) (fI_n4 _) rfl (by first | decide | omega) ?_
    refine sp_ltell (k := 7) (by decide) (by unfold fR; omega) (fK0 ?_)
    refine fx_la 0 111 (v := 346) (by decide +kernel) rfl (by decide +kernel) ?_
    refine fx_gp 346 43 1 66 114 (by decide +kernel) ?_
    refine fx_ci (8) 116 (by decide +kernel) ?_
    refine fx_la 0 117 (v := 346) (by decide +kernel) rfl (by decide +kernel) ?_
    refine fx_gp 346 43 0 26 120 (by decide +kernel) ?_
    refine fx_gp 26 3 1 42 123 (by decide +kernel) ?_
    refine fx_li 2 124 (by decide +kernel) rfl ?_
    refine fx_al 42 5 8 125 (by decide +kernel) rfl (by omega) (by omega) rfl ?_
    try simp only [fu_app, fcy_app, Nat.reduceEqDiff, and_true, and_false, false_and, true_and, if_true, if_false, ite_true, ite_false, reduceIte, Int.reduceToNat, fx_simp0]
    rw [show ((p : Int)).toNat = p from rfl]
    refine fx_ci (3) 126 (by decide +kernel) ?_
    refine fx_ine 133 129 (by decide +kernel) (by unfold fR; omega) (by unfold fR; omega) (fun h126 => ?_) (fun h126 => ?_)
    · refine fx_ci (0) 134 (by decide +kernel) ?_
      refine fx_c3 128 21 137 0 [] (by decide +kernel) (by decide) (by decide) (fI_n4 _) (fI_n4 _) rfl (by first | decide | omega) ?_
      refine sp_ltell (k := 8) (by decide) (by unfold fR; omega) (fK0 ?_)
      refine fx_vret (by decide +kernel) ?_
      exact fin _ _ _ (by rw [if_neg (by omega)]) (by rw [if_neg (by omega)]) rfl
    · refine fx_ci (1) 130 (by decide +kernel) ?_
      refine fx_go 134 (by decide +kernel) ?_
      refine fx_c3 128 21 137 0 [] (by decide +kernel) (by decide) (by decide) (fI_n4 _) (fI_n4 _) rfl (by first | decide | omega) ?_
      refine sp_ltell (k := 8) (by decide) (by unfold fR; omega) (fK0 ?_)
      refine fx_vret (by decide +kernel) ?_
      exact fin _ _ _ (by rw [if_neg (by omega)]) (by rw [if_pos (by omega)]) rfl
  · refine fx_ci (0) 103 (by decide +kernel) ?_
    refine fx_go 107 (by decide +kernel) ?_
    refine fx_c3 128 21 110 0 [] (by decide +kernel) (by decide) (by decide) (fI_n4 _) (fI_n4 _) rfl (by first | decide | omega) ?_
    refine sp_ltell (k := 7) (by decide) (by unfold fR; omega) (fK0 ?_)
    refine fx_la 0 111 (v := 346) (by decide +kernel) rfl (by decide +kernel) ?_
    refine fx_gp 346 43 1 66 114 (by decide +kernel) ?_
    refine fx_ci (8) 116 (by decide +kernel) ?_
    refine fx_la 0 117 (v := 346) (by decide +kernel) rfl (by decide +kernel) ?_
    refine fx_gp 346 43 0 26 120 (by decide +kernel) ?_
    refine fx_gp 26 3 1 42 123 (by decide +kernel) ?_
    refine fx_li 2 124 (by decide +kernel) rfl ?_
    refine fx_al 42 5 8 125 (by decide +kernel) rfl (by omega) (by omega) rfl ?_
    try simp only [fu_app, fcy_app, Nat.reduceEqDiff, and_true, and_false, false_and, true_and, if_true, if_false, ite_true, ite_false, reduceIte, Int.reduceToNat, fx_simp0]
    rw [show ((p : Int)).toNat = p from rfl]
    refine fx_ci (3) 126 (by decide +kernel) ?_
    refine fx_ine 133 129 (by decide +kernel) (by unfold fR; omega) (by unfold fR; omega) (fun h126 => ?_) (fun h126 => ?_)
    · refine fx_ci (0) 134 (by decide +kernel) ?_
      refine fx_c3 128 21 137 0 [] (by decide +kernel) (by decide) (by decide) (fI_n4 _) (fI_n4 _) rfl (by first | decide | omega) ?_
      refine sp_ltell (k := 8) (by decide) (by unfold fR; omega) (fK0 ?_)
      refine fx_vret (by decide +kernel) ?_
      exact fin _ _ _ (by rw [if_pos (by omega)]) (by rw [if_neg (by omega)]) rfl
    · refine fx_ci (1) 130 (by decide +kernel) ?_
      refine fx_go 134 (by decide +kernel) ?_
      refine fx_c3 128 21 137 0 [] (by decide +kernel) (by decide) (by decide) (fI_n4 _) (fI_n4 _) rfl (by first | decide | omega) ?_
      refine sp_ltell (k := 8) (by decide) (by unfold fR; omega) (fK0 ?_)
      refine fx_vret (by decide +kernel) ?_
      exact fin _ _ _ (by rw [if_pos (by omega)]) (by rw [if_pos (by omega)]) rfl
theorem cFv_table_78 (g : Nat → Nat → Int) (p : Nat) (pl d : Int) : (cFv_table g p pl d 7 = 0 ∨ cFv_table g p pl d 7 = 1) ∧ (cFv_table g p pl d 8 = 0 ∨ cFv_table g p pl d 8 = 1) := by
  refine ⟨?_, ?_⟩
  · show (if g 19 p = -1 then (0 : Int) else 1) = 0 ∨ (if g 19 p = -1 then (0 : Int) else 1) = 1
    split <;> simp
  · show (if g 5 p = 3 then (1 : Int) else 0) = 0 ∨ (if g 5 p = 3 then (1 : Int) else 0) = 1
    split <;> simp
/-- what a ring of the table table eats -/
theorem sp_ceatenBy_table {p : Nat} {pl d : Int} (h : LwL g segs) (hS : SgOK (cFv_table g p pl d) segs) (hp : p < 8) (hpl : 0 ≤ pl ∧ pl ≤ 7) (hd : 0 ≤ d ∧ d < 6) (he : 0 ≤ g 6 (d * 8 + pl).toNat ∧ g 6 (d * 8 + pl).toNat ≤ 9)
    (kq : ∀ g', fFS g g' → Q 1 (fI (if 0 ≤ g 6 (d * 8 + pl).toNat + lwM (cFv_table g p pl d) segs 0 then g 6 (d * 8 + pl).toNat + lwM (cFv_table g p pl d) segs 0 else 0)) g') : fx W r 3 143 0 [346, 130, fI (p : Int), fI pl, fI d, 7] [] g Q := by
  have h12 := h.2.1
  have hln := h.ln fSt.rf 0
  have hmb := lwM_b (F := cFv_table g p pl d) segs 0 (fun s hs => (hS s hs).2.2)
  refine fx_la 0 1 (v := 346) (by decide +kernel) rfl (by decide +kernel) ?_
  refine fx_gp 346 43 0 26 4 (by decide +kernel) ?_
  refine fx_li 4 6 (by decide +kernel) rfl ?_
  refine fx_li 3 7 (by decide +kernel) rfl ?_
  refine fx_c3 24 21 10 0 [] (by decide +kernel) (by decide) (by decide) (fI_n4 _) (fI_n4 _) rfl (by first | decide | omega) ?_
  refine sp_ceatenAt hd hpl (fK1 ?_)
  generalize g 6 (d * 8 + pl).toNat = e at *
  refine fx_si 5 12 (by decide +kernel) (Or.inr (fI_n4 _)) rfl ?_
  dsimp only [List.set]
  refine fx_la 0 13 (v := 346) (by decide +kernel) rfl (by decide +kernel) ?_
  refine fx_gp 346 43 1 66 16 (by decide +kernel) ?_
  refine fx_gi 66 8 7 19 (by decide +kernel) ?_
  try simp only [fu_app, fcy_app, Nat.reduceEqDiff, and_true, and_false, false_and, true_and, if_true, if_false, ite_true, ite_false, reduceIte, Int.reduceToNat, fx_simp0]
  refine fx_zgt 25 22 (by decide +kernel) (by unfold fR; omega) (fun h19 => ?_) (fun h19 => ?_)
  · refine fx_la 0 26 (v := 346) (by decide +kernel) rfl (by decide +kernel) ?_
    refine fx_la 1 27 (v := 130) (by decide +kernel) rfl (by decide +kernel) ?_
    refine fx_li 2 28 (by decide +kernel) rfl ?_
    refine fx_li 3 29 (by decide +kernel) rfl ?_
    refine fx_li 4 31 (by decide +kernel) rfl ?_
    refine fx_c5 127 21 34 1 [] (by decide +kernel) (by decide) (by decide) (by decide) (fI_n4 _) (fI_n4 _) (fI_n4 _) rfl (by first | decide | omega) ?_
    refine sp_ctellLaw_table hp (by unfold fR; omega) (by unfold fR; omega) (fun g1 x1 c1 => fK0 ?_)
    refine fx_ci (0) 35 (by decide +kernel) ?_
    refine fx_li 5 37 (by decide +kernel) rfl ?_
    refine fx_la 0 38 (v := 346) (by decide +kernel) rfl (by decide +kernel) ?_
    refine fx_gp 346 43 1 66 41 (by decide +kernel) ?_
    refine fx_c1 144 21 44 2 [7, 7] (by decide +kernel) (by decide) rfl (by first | decide | omega) ?_
    refine sp_more (h.cg (x1 _ _ (by decide)) (fun i j i1 i2 => x1 _ _ (by omega))) c1 hS (fun g2 x2 => fK1 ?_)
    refine fx_add 45 (by decide +kernel) rfl ?_
    refine fx_c2 145 22 48 0 [] (f_q22 (by decide +kernel)) (by decide) (fI_n4 _) (fI_n4 _) rfl (by first | decide | omega) ?_
    refine sp_max0 (by unfold fR; omega) (fK1 ?_)
    refine fx_ret (by decide +kernel) ?_
    exact kq g2 (fun c j a b => by rw [x2 c j b, x1 c j a])
  · refine fx_li 5 24 (by decide +kernel) rfl ?_
    refine fx_ret (by decide +kernel) ?_
    have s0 : segs = [] := by
      have : ¬ 0 < segs.length := fun t => by have := hln.1.mpr t; omega
      exact List.length_eq_zero_iff.mp (by omega)
    subst s0
    have kq := kq g fFS.rf
    have m0 : lwM (cFv_table g p pl d) [] 0 = 0 := rfl
    rw [m0, Int.add_zero, if_pos he.1] at kq
    exact kq
/-- whether a ring of the table table may be taken off -/
noncomputable def cMay_table (g : Nat → Nat → Int) (segs : List (List Int × Int × Int)) (p : Nat) : Prop := if lwH segs = true then lwO (cFv_table g p (g 17 p) 0) segs = true else g 3 9 ≤ g 20 p
theorem sp_cmayBeOff_table {p : Nat} (h : LwL g segs) (hS : SgOK (cFv_table g p (g 17 p) 0) segs) (hp : p < 8)
    (k1 : cMay_table g segs p → ∀ g', fFS g g' → Q 1 (fI 1) g') (k2 : ¬ cMay_table g segs p → ∀ g', fFS g g' → Q 1 (fI 0) g') : fx W r 3 125 0 [346, 130, fI (p : Int)] [] g Q := by
  refine fx_rg (fun hg => ?_)
  have rp := hgA hg 8 (c := 17) (j := p) (by decide +kernel) hp
  have rc := hgA hg 8 (c := 20) (j := p) (by decide +kernel) hp
  have rl := hg 3 9 (by decide) (by decide +kernel) (by decide +kernel)
  unfold fR at rc rl
  unfold cMay_table at k1 k2
  refine fx_la 0 1 (v := 346) (by decide +kernel) rfl (by decide +kernel) ?_
  refine fx_gp 346 43 1 66 4 (by decide +kernel) ?_
  refine fx_c1 126 21 7 0 [7] (by decide +kernel) (by decide) rfl (by first | decide | omega) ?_
  refine sp_hasOff h (fK1 ?_)
  have hz : (if lwH segs = true then (1 : Int) else 0) = 0 ∨ (if lwH segs = true then (1 : Int) else 0) = 1 := by split <;> simp
  generalize ez : (if lwH segs = true then (1 : Int) else 0) = z at *
  refine fx_zne 32 10 (by decide +kernel) (by unfold fR; omega) (fun h7 => ?_) (fun h7 => ?_)
  · have e0 : lwH segs = true := Classical.byContradiction (fun t => by rw [if_neg t] at ez; omega)
    rw [if_pos e0] at k1 k2
    refine fx_la 0 33 (v := 346) (by decide +kernel) rfl (by decide +kernel) ?_
    refine fx_la 1 34 (v := 130) (by decide +kernel) rfl (by decide +kernel) ?_
    refine fx_li 2 35 (by decide +kernel) rfl ?_
    refine fx_la 1 36 (v := 130) (by decide +kernel) rfl (by decide +kernel) ?_
    refine fx_gp 130 16 0 138 39 (by decide +kernel) ?_
    refine fx_li 2 40 (by decide +kernel) rfl ?_
    refine fx_al 138 17 8 41 (by decide +kernel) rfl (by omega) (by omega) rfl ?_
    try simp only [fu_app, fcy_app, Nat.reduceEqDiff, and_true, and_false, false_and, true_and, if_true, if_false, ite_true, ite_false, reduceIte, Int.reduceToNat, fx_simp0]
    rw [show ((p : Int)).toNat = p from rfl]
    refine fx_ci (0) 42 (by decide +kernel) ?_
    refine fx_c5 127 21 45 1 [] (by decide +kernel) (by decide) (by decide) (by decide) (fI_n4 _) (fI_n4 _) (fI_n4 _) rfl (by first | decide | omega) ?_
    refine sp_ctellLaw_table hp rp (by unfold fR; omega) (fun g1 x1 c1 => fK0 ?_)
    refine fx_la 0 46 (v := 346) (by decide +kernel) rfl (by decide +kernel) ?_
    refine fx_gp 346 43 1 66 49 (by decide +kernel) ?_
    refine fx_c1 129 21 52 2 [7] (by decide +kernel) (by decide) rfl (by first | decide | omega) ?_
    refine sp_someOff (h.cg (x1 _ _ (by decide)) (fun i j i1 i2 => x1 _ _ (by omega))) c1 hS (fun g2 x2 => fK1 ?_)
    have xs : fFS g g2 := fun c j a b => by rw [x2 c j b, x1 c j a]
    refine fx_retb (by decide +kernel) (by first | exact Or.inl rfl | exact Or.inr rfl | omega) ?_
    by_cases c : lwO (cFv_table g p (g 17 p) 0) segs = true
    · rw [if_pos c]; exact k1 c _ xs
    · rw [if_neg c]; exact k2 c _ xs
  · have e0 : ¬ lwH segs = true := fun t => by rw [if_pos t] at ez; omega
    rw [if_neg e0] at k1 k2
    refine fx_la 1 11 (v := 130) (by decide +kernel) rfl (by decide +kernel) ?_
    refine fx_gp 130 16 3 162 14 (by decide +kernel) ?_
    refine fx_li 2 15 (by decide +kernel) rfl ?_
    refine fx_al 162 20 8 16 (by decide +kernel) rfl (by omega) (by omega) rfl ?_
    try simp only [fu_app, fcy_app, Nat.reduceEqDiff, and_true, and_false, false_and, true_and, if_true, if_false, ite_true, ite_false, reduceIte, Int.reduceToNat, fx_simp0]
    rw [show ((p : Int)).toNat = p from rfl]
    refine fx_la 0 17 (v := 346) (by decide +kernel) rfl (by decide +kernel) ?_
    refine fx_gp 346 43 0 26 20 (by decide +kernel) ?_
    refine fx_gi 26 3 9 23 (by decide +kernel) ?_
    try simp only [fu_app, fcy_app, Nat.reduceEqDiff, and_true, and_false, false_and, true_and, if_true, if_false, ite_true, ite_false, reduceIte, Int.reduceToNat, fx_simp0]
    refine fx_ilt 30 26 (by decide +kernel) (by unfold fR; omega) (by unfold fR; omega) (fun h23 => ?_) (fun h23 => ?_)
    · refine fx_ci (0) 31 (by decide +kernel) ?_
      refine fx_retb (by decide +kernel) (by first | exact Or.inl rfl | exact Or.inr rfl | omega) ?_
      exact k2 (by omega) _ fFS.rf
    · refine fx_ci (1) 27 (by decide +kernel) ?_
      refine fx_go 31 (by decide +kernel) ?_
      refine fx_retb (by decide +kernel) (by first | exact Or.inl rfl | exact Or.inr rfl | omega) ?_
      exact k1 (by omega) _ fFS.rf
/-- the facts of a person of the table scratch -/
def cFv_scratch (g : Nat → Nat → Int) (p : Nat) (pl d : Int) (k : Nat) : Int := [(p : Int), pl, d, g 26 p, g 24 p, g 4 p, g 22 9, if g 25 p = -1 then 0 else 1, if g 5 p = 3 then 1 else 0].getD (min k 8) 0
theorem sp_ctellLaw_scratch {p : Nat} {pl d : Int} (hp : p < 8) (hpl : fR pl) (hd : fR d) (kq : ∀ g', (∀ c j, c ≠ 14 → g' c j = g c j) → fC g' = cFv_scratch g p pl d → Q 0 0 g') : fx W r 1 127 0 [346, 178, fI (p : Int), fI pl, fI d] [] g Q := by
  refine fx_rg (fun hg => ?_)
  have r3 := hgA hg 8 (c := 26) (j := p) (by decide +kernel) hp
  have r4 := hgA hg 8 (c := 24) (j := p) (by decide +kernel) hp
  have r5 := hgA hg 8 (c := 4) (j := p) (by decide +kernel) hp
  have r7 := hgA hg 8 (c := 25) (j := p) (by decide +kernel) hp
  have r8 := hgA hg 8 (c := 5) (j := p) (by decide +kernel) hp
  have r6 := hg 22 9 (by decide) (by decide +kernel) (by decide +kernel)
  have r7' := r7
  have r8' := r8
  unfold fR at r7' r8'
  have fin : ∀ (a b : Int) (G : Nat → Nat → Int), a = (if g 25 p = -1 then 0 else 1) → b = (if g 5 p = 3 then 1 else 0) → G = fu (fu (fu (fu (fu (fu (fu (fu (fu g 14 0 (p : Int)) 14 1 pl) 14 2 d) 14 3 (g 26 p)) 14 4 (g 24 p)) 14 5 (g 4 p)) 14 6 (g 22 9)) 14 7 a) 14 8 b → Q 0 0 G := fun a b G ha hb hG => by
    subst hG
    refine kq _ (fun c j hc => ?_) ?_
    · rw [fu_nc hc, fu_nc hc, fu_nc hc, fu_nc hc, fu_nc hc, fu_nc hc, fu_nc hc, fu_nc hc, fu_nc hc]
    · funext k
      unfold fC cFv_scratch
      have hk : min k 8 ≤ 8 := Nat.min_le_right _ _
      generalize min k 8 = q at hk
      rcases (by omega : q = 0 ∨ q = 1 ∨ q = 2 ∨ q = 3 ∨ q = 4 ∨ q = 5 ∨ q = 6 ∨ q = 7 ∨ q = 8) with rfl | rfl | rfl | rfl | rfl | rfl | rfl | rfl | rfl
      · rw [fu_nj (by decide), fu_nj (by decide), fu_nj (by decide), fu_nj (by decide), fu_nj (by decide), fu_nj (by decide), fu_nj (by decide), fu_nj (by decide), fu_eq]; rfl
      · rw [fu_nj (by decide), fu_nj (by decide), fu_nj (by decide), fu_nj (by decide), fu_nj (by decide), fu_nj (by decide), fu_nj (by decide), fu_eq]; rfl
      · rw [fu_nj (by decide), fu_nj (by decide), fu_nj (by decide), fu_nj (by decide), fu_nj (by decide), fu_nj (by decide), fu_eq]; rfl
      · rw [fu_nj (by decide), fu_nj (by decide), fu_nj (by decide), fu_nj (by decide), fu_nj (by decide), fu_eq]; rfl
      · rw [fu_nj (by decide), fu_nj (by decide), fu_nj (by decide), fu_nj (by decide), fu_eq]; rfl
      · rw [fu_nj (by decide), fu_nj (by decide), fu_nj (by decide), fu_eq]; rfl
      · rw [fu_nj (by decide), fu_nj (by decide), fu_eq]; rfl
      · rw [fu_nj (by decide), fu_eq]; exact ha
      · rw [fu_eq]; exact hb
  refine fx_la 0 1 (v := 346) (by decide +kernel) rfl (by decide +kernel) ?_
  refine fx_gp 346 43 1 66 4 (by decide +kernel) ?_
  refine fx_ci (0) 5 (by decide +kernel) ?_
  refine fx_li 2 6 (by decide +kernel) rfl ?_
  refine fx_c3 128 21 9 0 [] (by decide +kernel) (by decide) (by decide) (fI_n4 _) (fI_n4 _) rfl (by first | decide | omega) ?_
  refine sp_ltell (k := 0) (by decide) (by unfold fR; omega) (fK0 ?_)
  refine fx_la 0 10 (v := 346) (by decide +kernel) rfl (by decide +kernel) ?_
  refine fx_gp 346 43 1 66 13 (by decide +kernel) ?_
  refine fx_ci (1) 14 (by decide +kernel) ?_
  refine fx_li 3 15 (by decide +kernel) rfl ?_
  refine fx_c3 128 21 18 0 [] (by decide +kernel) (by decide) (by decide) (fI_n4 _) (fI_n4 _) rfl (by first | decide | omega) ?_
  refine sp_ltell (k := 1) (by decide) hpl (fK0 ?_)
  refine fx_la 0 19 (v := 346) (by decide +kernel) rfl (by decide +kernel) ?_
  refine fx_gp 346 43 1 66 22 (by decide +kernel) ?_
  refine fx_ci (2) 23 (by decide +kernel) ?_
  refine fx_li 4 25 (by decide +kernel) rfl ?_
  refine fx_c3 128 21 28 0 [] (by decide +kernel) (by decide) (by decide) (fI_n4 _) (fI_n4 _) rfl (by first | decide | omega) ?_
  refine sp_ltell (k := 2) (by decide) hd (fK0 ?_)
  refine fx_la 0 29 (v := 346) (by decide +kernel) rfl (by decide +kernel) ?_
  refine fx_gp 346 43 1 66 32 (by decide +kernel) ?_
  refine fx_ci (3) 33 (by decide +kernel) ?_
  refine fx_la 1 34 (v := 178) (by decide +kernel) rfl (by decide +kernel) ?_
  refine fx_gp 178 22 3 210 37 (by decide +kernel) ?_
  refine fx_li 2 38 (by decide +kernel) rfl ?_
  refine fx_al 210 26 8 39 (by decide +kernel) rfl (by omega) (by omega) rfl ?_
  try simp only [fu_app, fcy_app, Nat.reduceEqDiff, and_true, and_false, false_and, true_and, if_true, if_false, ite_true, ite_false, reduceIte, Int.reduceToNat, fx_simp0]
  rw [show ((p : Int)).toNat = p from rfl]
  refine fx_c3 128 21 42 0 [] (by decide +kernel) (by decide) (by decide) (fI_n4 _) (fI_n4 _) rfl (by first | decide | omega) ?_
  refine sp_ltell (k := 3) (by decide) (by first | exact r3 | simpa [fu_app] using r3) (fK0 ?_)
  refine fx_la 0 43 (v := 346) (by decide +kernel) rfl (by decide +kernel) ?_
  refine fx_gp 346 43 1 66 46 (by decide +kernel) ?_
  refine fx_ci (4) 47 (by decide +kernel) ?_
  refine fx_la 1 48 (v := 178) (by decide +kernel) rfl (by decide +kernel) ?_
  refine fx_gp 178 22 1 194 51 (by decide +kernel) ?_
  refine fx_li 2 52 (by decide +kernel) rfl ?_
  refine fx_al 194 24 8 53 (by decide +kernel) rfl (by omega) (by omega) rfl ?_
  try simp only [fu_app, fcy_app, Nat.reduceEqDiff, and_true, and_false, false_and, true_and, if_true, if_false, ite_true, ite_false, reduceIte, Int.reduceToNat, fx_simp0]
  rw [show ((p : Int)).toNat = p from rfl]
  refine fx_c3 128 21 56 0 [] (by decide +kernel) (by decide) (by decide) (fI_n4 _) (fI_n4 _) rfl (by first | decide | omega) ?_
  refine sp_ltell (k := 4) (by decide) (by first | exact r4 | simpa [fu_app] using r4) (fK0 ?_)
  refine fx_la 0 57 (v := 346) (by decide +kernel) rfl (by decide +kernel) ?_
  refine fx_gp 346 43 1 66 60 (by decide +kernel) ?_
  refine fx_ci (5) 61 (by decide +kernel) ?_
  refine fx_la 0 62 (v := 346) (by decide +kernel) rfl (by decide +kernel) ?_
  refine fx_gp 346 43 0 26 65 (by decide +kernel) ?_
  refine fx_gp 26 3 0 34 68 (by decide +kernel) ?_
  refine fx_li 2 69 (by decide +kernel) rfl ?_
  refine fx_al 34 4 8 70 (by decide +kernel) rfl (by omega) (by omega) rfl ?_
  try simp only [fu_app, fcy_app, Nat.reduceEqDiff, and_true, and_false, false_and, true_and, if_true, if_false, ite_true, ite_false, reduceIte, Int.reduceToNat, fx_simp0]
  rw [show ((p : Int)).toNat = p from rfl]
  refine fx_c3 128 21 73 0 [] (by decide +kernel) (by decide) (by decide) (fI_n4 _) (fI_n4 _) rfl (by first | decide | omega) ?_
  refine sp_ltell (k := 5) (by decide) (by first | exact r5 | simpa [fu_app] using r5) (fK0 ?_)
  refine fx_la 0 74 (v := 346) (by decide +kernel) rfl (by decide +kernel) ?_
  refine fx_gp 346 43 1 66 77 (by decide +kernel) ?_
  refine fx_ci (6) 79 (by decide +kernel) ?_
  refine fx_la 1 80 (v := 178) (by decide +kernel) rfl (by decide +kernel) ?_
  refine fx_gi 178 22 9 83 (by decide +kernel) ?_
  try simp only [fu_app, fcy_app, Nat.reduceEqDiff, and_true, and_false, false_and, true_and, if_true, if_false, ite_true, ite_false, reduceIte, Int.reduceToNat, fx_simp0]
  refine fx_c3 128 21 86 0 [] (by decide +kernel) (by decide) (by decide) (fI_n4 _) (fI_n4 _) rfl (by first | decide | omega) ?_
  refine sp_ltell (k := 6) (by decide) (by first | exact r6 | simpa [fu_app] using r6) (fK0 ?_)
  refine fx_la 0 87 (v := 346) (by decide +kernel) rfl (by decide +kernel) ?_
  refine fx_gp 346 43 1 66 90 (by decide +kernel) ?_
  refine fx_ci (7) 92 (by decide +kernel) ?_
  refine fx_la 1 93 (v := 178) (by decide +kernel) rfl (by decide +kernel) ?_
  refine fx_gp 178 22 2 202 96 (by decide +kernel) ?_
  refine fx_li 2 97 (by decide +kernel) rfl ?_
  refine fx_al 202 25 8 98 (by decide +kernel) rfl (by omega) (by omega) rfl ?_
  try simp only [fu_app, fcy_app, Nat.reduceEqDiff, and_true, and_false, false_and, true_and, if_true, if_false, ite_true, ite_false, reduceIte, Int.reduceToNat, fx_simp0]
  rw [show ((p : Int)).toNat = p from rfl]
  refine fx_ci (-1) 99 (by decide +kernel) ?_
  refine fx_ine 106 102 (by decide +kernel) (by unfold fR; omega) (by unfold fR; omega) (fun h99 => ?_) (fun h99 => ?_)
  · refine fx_ci (1) 107 (by decide +kernel) ?_
    refine fx_c3 128 21 110 0 [] (by decide +kernel) (by decide) (by decide) (fI_n4 _) (fI_n4 _) rfl (by first | decide | omega) ?_
    refine sp_ltell (k := 7) (by decide) (by unfold fR; omega) (fK0 ?_)
    refine fx_la 0 111 (v := 346) (by decide +kernel) rfl (by decide +kernel) ?_
    refine fx_gp 346 43 1 66 114 (by decide +kernel) ?_
    refine fx_ci (8) 116 (by decide +kernel) ?_
    refine fx_la 0 117 (v := 346) (by decide +kernel) rfl (by decide +kernel) ?_
    refine fx_gp 346 43 0 26 120 (by decide +kernel) ?_
    refine fx_gp 26 3 1 42 123 (by decide +kernel) ?_
    refine fx_li 2 124 (by decide +kernel) rfl ?_
    refine fx_al 42 5 8 125 (by decide +kernel) rfl (by omega) (by omega) rfl ?_
    try simp only [fu_app, fcy_app, Nat.reduceEqDiff, and_true, and_false, false_and, true_and, if_true, if_false, ite_true, ite_false, reduceIte, Int.reduceToNat, fx_simp0]
    rw [show ((p : Int)).toNat = p from rfl]
    refine fx_ci (3) 126 (by decide +kernel) ?_
    refine fx_ine 133 129 (by decide +kernel) (by unfold fR; omega) (by unfold fR; omega) (fun h126 => ?_) (fun h126 => ?_)
    · refine fx_ci (0) 134 (by decide +kernel) ?_
      refine fx_c3 128 21 137 0 [] (by decide +kernel) (by decide) (by decide) (fI_n4 _) (fI_n4 _) rfl (by first | decide | omega) ?_
      refine sp_ltell (k := 8) (by decide) (by unfold fR; omega) (fK0 ?_)
      refine fx_vret (by decide +kernel) ?_
      exact fin _ _ _ (by rw [if_neg (by omega)]) (by rw [if_neg (by omega)]) rfl
    · refine fx_ci (1) 130 (by decide +kernel) ?_
      refine fx_go 134 (by decide +kernel) ?_
      refine fx_c3 128 21 137 0 [] (by decide +kernel) (by decide) (by decide) (fI_n4 _) (fI_n4 _) rfl (by first | decide | omega) ?_
      refine sp_ltell (k := 8) (by decide) (by unfold fR; omega) (fK0 ?_)
      refine fx_vret (by decide +kernel) ?_
      exact fin _ _ _ (by rw [if_neg (by omega)]) (by rw [if_pos (by omega)]) rfl
  · refine fx_ci (0) 103 (by decide +kernel) ?_
    refine fx_go 107 (by decide +kernel) ?_
    refine fx_c3 128 21 110 0 [] (by decide +kernel) (by decide) (by decide) (fI_n4 _) (fI_n4 _) rfl (by first | decide | omega) ?_
    refine sp_ltell (k := 7) (by decide) (by unfold fR; omega) (fK0 ?_)
    refine fx_la 0 111 (v := 346) (by decide +kernel) rfl (by decide +kernel) ?_
    refine fx_gp 346 43 1 66 114 (by decide +kernel) ?_
    refine fx_ci (8) 116 (by decide +kernel) ?_
    refine fx_la 0 117 (v := 346) (by decide +kernel) rfl (by decide +kernel) ?_
    refine fx_gp 346 43 0 26 120 (by decide +kernel) ?_
    refine fx_gp 26 3 1 42 123 (by decide +kernel) ?_
    refine fx_li 2 124 (by decide +kernel) rfl ?_
    refine fx_al 42 5 8 125 (by decide +kernel) rfl (by omega) (by omega) rfl ?_
    try simp only [fu_app, fcy_app, Nat.reduceEqDiff, and_true, and_false, false_and, true_and, if_true, if_false, ite_true, ite_false, reduceIte, Int.reduceToNat, fx_simp0]
    rw [show ((p : Int)).toNat = p from rfl]
    refine fx_ci (3) 126 (by decide +kernel) ?_
    refine fx_ine 133 129 (by decide +kernel) (by unfold fR; omega) (by unfold fR; omega) (fun h126 => ?_) (fun h126 => ?_)
    · refine fx_ci (0) 134 (by decide +kernel) ?_
      refine fx_c3 128 21 137 0 [] (by decide +kernel) (by decide) (by decide) (fI_n4 _) (fI_n4 _) rfl (by first | decide | omega) ?_
      refine sp_ltell (k := 8) (by decide) (by unfold fR; omega) (fK0 ?_)
      refine fx_vret (by decide +kernel) ?_
      exact fin _ _ _ (by rw [if_pos (by omega)]) (by rw [if_neg (by omega)]) rfl
    · refine fx_ci (1) 130 (by decide +kernel) ?_
      refine fx_go 134 (by decide +kernel) ?_
      refine fx_c3 128 21 137 0 [] (by decide +kernel) (by decide) (by decide) (fI_n4 _) (fI_n4 _) rfl (by first | decide | omega) ?_
      refine sp_ltell (k := 8) (by decide) (by unfold fR; omega) (fK0 ?_)
      refine fx_vret (by decide +kernel) ?_
      exact fin _ _ _ (by rw [if_pos (by omega)]) (by rw [if_pos (by omega)]) rfl
theorem cFv_scratch_78 (g : Nat → Nat → Int) (p : Nat) (pl d : Int) : (cFv_scratch g p pl d 7 = 0 ∨ cFv_scratch g p pl d 7 = 1) ∧ (cFv_scratch g p pl d 8 = 0 ∨ cFv_scratch g p pl d 8 = 1) := by
  refine ⟨?_, ?_⟩
  · show (if g 25 p = -1 then (0 : Int) else 1) = 0 ∨ (if g 25 p = -1 then (0 : Int) else 1) = 1
    split <;> simp
  · show (if g 5 p = 3 then (1 : Int) else 0) = 0 ∨ (if g 5 p = 3 then (1 : Int) else 0) = 1
    split <;> simp
/-- what a ring of the table scratch eats -/
theorem sp_ceatenBy_scratch {p : Nat} {pl d : Int} (h : LwL g segs) (hS : SgOK (cFv_scratch g p pl d) segs) (hp : p < 8) (hpl : 0 ≤ pl ∧ pl ≤ 7) (hd : 0 ≤ d ∧ d < 6) (he : 0 ≤ g 6 (d * 8 + pl).toNat ∧ g 6 (d * 8 + pl).toNat ≤ 9)
    (kq : ∀ g', fFS g g' → Q 1 (fI (if 0 ≤ g 6 (d * 8 + pl).toNat + lwM (cFv_scratch g p pl d) segs 0 then g 6 (d * 8 + pl).toNat + lwM (cFv_scratch g p pl d) segs 0 else 0)) g') : fx W r 3 143 0 [346, 178, fI (p : Int), fI pl, fI d, 7] [] g Q := by
  have h12 := h.2.1
  have hln := h.ln fSt.rf 0
  have hmb := lwM_b (F := cFv_scratch g p pl d) segs 0 (fun s hs => (hS s hs).2.2)
  refine fx_la 0 1 (v := 346) (by decide +kernel) rfl (by decide +kernel) ?_
  refine fx_gp 346 43 0 26 4 (by decide +kernel) ?_
  refine fx_li 4 6 (by decide +kernel) rfl ?_
  refine fx_li 3 7 (by decide +kernel) rfl ?_
  refine fx_c3 24 21 10 0 [] (by decide +kernel) (by decide) (by decide) (fI_n4 _) (fI_n4 _) rfl (by first | decide | omega) ?_
  refine sp_ceatenAt hd hpl (fK1 ?_)
  generalize g 6 (d * 8 + pl).toNat = e at *
  refine fx_si 5 12 (by decide +kernel) (Or.inr (fI_n4 _)) rfl ?_
  dsimp only [List.set]
  refine fx_la 0 13 (v := 346) (by decide +kernel) rfl (by decide +kernel) ?_
  refine fx_gp 346 43 1 66 16 (by decide +kernel) ?_
  refine fx_gi 66 8 7 19 (by decide +kernel) ?_
  try simp only [fu_app, fcy_app, Nat.reduceEqDiff, and_true, and_false, false_and, true_and, if_true, if_false, ite_true, ite_false, reduceIte, Int.reduceToNat, fx_simp0]
  refine fx_zgt 25 22 (by decide +kernel) (by unfold fR; omega) (fun h19 => ?_) (fun h19 => ?_)
  · refine fx_la 0 26 (v := 346) (by decide +kernel) rfl (by decide +kernel) ?_
    refine fx_la 1 27 (v := 178) (by decide +kernel) rfl (by decide +kernel) ?_
    refine fx_li 2 28 (by decide +kernel) rfl ?_
    refine fx_li 3 29 (by decide +kernel) rfl ?_
    refine fx_li 4 31 (by decide +kernel) rfl ?_
    refine fx_c5 127 21 34 1 [] (by decide +kernel) (by decide) (by decide) (by decide) (fI_n4 _) (fI_n4 _) (fI_n4 _) rfl (by first | decide | omega) ?_
    refine sp_ctellLaw_scratch hp (by unfold fR; omega) (by unfold fR; omega) (fun g1 x1 c1 => fK0 ?_)
    refine fx_ci (0) 35 (by decide +kernel) ?_
    refine fx_li 5 37 (by decide +kernel) rfl ?_
    refine fx_la 0 38 (v := 346) (by decide +kernel) rfl (by decide +kernel) ?_
    refine fx_gp 346 43 1 66 41 (by decide +kernel) ?_
    refine fx_c1 144 21 44 2 [7, 7] (by decide +kernel) (by decide) rfl (by first | decide | omega) ?_
    refine sp_more (h.cg (x1 _ _ (by decide)) (fun i j i1 i2 => x1 _ _ (by omega))) c1 hS (fun g2 x2 => fK1 ?_)
    refine fx_add 45 (by decide +kernel) rfl ?_
    refine fx_c2 145 22 48 0 [] (f_q22 (by decide +kernel)) (by decide) (fI_n4 _) (fI_n4 _) rfl (by first | decide | omega) ?_
    refine sp_max0 (by unfold fR; omega) (fK1 ?_)
    refine fx_ret (by decide +kernel) ?_
    exact kq g2 (fun c j a b => by rw [x2 c j b, x1 c j a])
  · refine fx_li 5 24 (by decide +kernel) rfl ?_
    refine fx_ret (by decide +kernel) ?_
    have s0 : segs = [] := by
      have : ¬ 0 < segs.length := fun t => by have := hln.1.mpr t; omega
      exact List.length_eq_zero_iff.mp (by omega)
    subst s0
    have kq := kq g fFS.rf
    have m0 : lwM (cFv_scratch g p pl d) [] 0 = 0 := rfl
    rw [m0, Int.add_zero, if_pos he.1] at kq
    exact kq
/-- whether a ring of the table scratch may be taken off -/
noncomputable def cMay_scratch (g : Nat → Nat → Int) (segs : List (List Int × Int × Int)) (p : Nat) : Prop := if lwH segs = true then lwO (cFv_scratch g p (g 23 p) 0) segs = true else g 3 9 ≤ g 26 p
theorem sp_cmayBeOff_scratch {p : Nat} (h : LwL g segs) (hS : SgOK (cFv_scratch g p (g 23 p) 0) segs) (hp : p < 8)
    (k1 : cMay_scratch g segs p → ∀ g', fFS g g' → Q 1 (fI 1) g') (k2 : ¬ cMay_scratch g segs p → ∀ g', fFS g g' → Q 1 (fI 0) g') : fx W r 3 125 0 [346, 178, fI (p : Int)] [] g Q := by
  refine fx_rg (fun hg => ?_)
  have rp := hgA hg 8 (c := 23) (j := p) (by decide +kernel) hp
  have rc := hgA hg 8 (c := 26) (j := p) (by decide +kernel) hp
  have rl := hg 3 9 (by decide) (by decide +kernel) (by decide +kernel)
  unfold fR at rc rl
  unfold cMay_scratch at k1 k2
  refine fx_la 0 1 (v := 346) (by decide +kernel) rfl (by decide +kernel) ?_
  refine fx_gp 346 43 1 66 4 (by decide +kernel) ?_
  refine fx_c1 126 21 7 0 [7] (by decide +kernel) (by decide) rfl (by first | decide | omega) ?_
  refine sp_hasOff h (fK1 ?_)
  have hz : (if lwH segs = true then (1 : Int) else 0) = 0 ∨ (if lwH segs = true then (1 : Int) else 0) = 1 := by split <;> simp
  generalize ez : (if lwH segs = true then (1 : Int) else 0) = z at *
  refine fx_zne 32 10 (by decide +kernel) (by unfold fR; omega) (fun h7 => ?_) (fun h7 => ?_)
  · have e0 : lwH segs = true := Classical.byContradiction (fun t => by rw [if_neg t] at ez; omega)
    rw [if_pos e0] at k1 k2
    refine fx_la 0 33 (v := 346) (by decide +kernel) rfl (by decide +kernel) ?_
    refine fx_la 1 34 (v := 178) (by decide +kernel) rfl (by decide +kernel) ?_
    refine fx_li 2 35 (by decide +kernel) rfl ?_
    refine fx_la 1 36 (v := 178) (by decide +kernel) rfl (by decide +kernel) ?_
    refine fx_gp 178 22 0 186 39 (by decide +kernel) ?_
    refine fx_li 2 40 (by decide +kernel) rfl ?_
    refine fx_al 186 23 8 41 (by decide +kernel) rfl (by omega) (by omega) rfl ?_
    try simp only [fu_app, fcy_app, Nat.reduceEqDiff, and_true, and_false, false_and, true_and, if_true, if_false, ite_true, ite_false, reduceIte, Int.reduceToNat, fx_simp0]
    rw [show ((p : Int)).toNat = p from rfl]
    refine fx_ci (0) 42 (by decide +kernel) ?_
    refine fx_c5 127 21 45 1 [] (by decide +kernel) (by decide) (by decide) (by decide) (fI_n4 _) (fI_n4 _) (fI_n4 _) rfl (by first | decide | omega) ?_
    refine sp_ctellLaw_scratch hp rp (by unfold fR; omega) (fun g1 x1 c1 => fK0 ?_)
    refine fx_la 0 46 (v := 346) (by decide +kernel) rfl (by decide +kernel) ?_
    refine fx_gp 346 43 1 66 49 (by decide +kernel) ?_
    refine fx_c1 129 21 52 2 [7] (by decide +kernel) (by decide) rfl (by first | decide | omega) ?_
    refine sp_someOff (h.cg (x1 _ _ (by decide)) (fun i j i1 i2 => x1 _ _ (by omega))) c1 hS (fun g2 x2 => fK1 ?_)
    have xs : fFS g g2 := fun c j a b => by rw [x2 c j b, x1 c j a]
    refine fx_retb (by decide +kernel) (by first | exact Or.inl rfl | exact Or.inr rfl | omega) ?_
    by_cases c : lwO (cFv_scratch g p (g 23 p) 0) segs = true
    · rw [if_pos c]; exact k1 c _ xs
    · rw [if_neg c]; exact k2 c _ xs
  · have e0 : ¬ lwH segs = true := fun t => by rw [if_pos t] at ez; omega
    rw [if_neg e0] at k1 k2
    refine fx_la 1 11 (v := 178) (by decide +kernel) rfl (by decide +kernel) ?_
    refine fx_gp 178 22 3 210 14 (by decide +kernel) ?_
    refine fx_li 2 15 (by decide +kernel) rfl ?_
    refine fx_al 210 26 8 16 (by decide +kernel) rfl (by omega) (by omega) rfl ?_
    try simp only [fu_app, fcy_app, Nat.reduceEqDiff, and_true, and_false, false_and, true_and, if_true, if_false, ite_true, ite_false, reduceIte, Int.reduceToNat, fx_simp0]
    rw [show ((p : Int)).toNat = p from rfl]
    refine fx_la 0 17 (v := 346) (by decide +kernel) rfl (by decide +kernel) ?_
    refine fx_gp 346 43 0 26 20 (by decide +kernel) ?_
    refine fx_gi 26 3 9 23 (by decide +kernel) ?_
    try simp only [fu_app, fcy_app, Nat.reduceEqDiff, and_true, and_false, false_and, true_and, if_true, if_false, ite_true, ite_false, reduceIte, Int.reduceToNat, fx_simp0]
    refine fx_ilt 30 26 (by decide +kernel) (by unfold fR; omega) (by unfold fR; omega) (fun h23 => ?_) (fun h23 => ?_)
    · refine fx_ci (0) 31 (by decide +kernel) ?_
      refine fx_retb (by decide +kernel) (by first | exact Or.inl rfl | exact Or.inr rfl | omega) ?_
      exact k2 (by omega) _ fFS.rf
    · refine fx_ci (1) 27 (by decide +kernel) ?_
      refine fx_go 31 (by decide +kernel) ?_
      refine fx_retb (by decide +kernel) (by first | exact Or.inl rfl | exact Or.inr rfl | omega) ?_
      exact k1 (by omega) _ fFS.rf
end FIE
