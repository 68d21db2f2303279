/-! fx: a line of the house, pure; the reference reads a person -/
abbrev pNu (T : Int → Int) (E f : Int) : Int := nv T f (pDg T E f - f).toNat
noncomputable def cif {α : Type} (P : Prop) (a b : α) : α := @ite α P (Classical.propDecidable P) a b
theorem cif_t {α : Type} {P : Prop} {a b : α} (h : P) : cif P a b = a := by unfold cif; rw [if_pos h]
theorem cif_f {α : Type} {P : Prop} {a b : α} (h : ¬ P) : cif P a b = b := by unfold cif; rw [if_neg h]
/-- a word and a number, or df -/
noncomputable def pOpt (T : Int → Int) (E : Int) (ws : List Nat) (lo hi df f : Int) : Int ⊕ (Int × Int) :=
  cif (pWd T E ws f) (cif (pN T E lo hi (pSk T E (pWe T E f))) (Sum.inr (pSk T E (pDg T E (pSk T E (pWe T E f))), pNu T E (pSk T E (pWe T E f)))) (Sum.inl (pSk T E (pWe T E f)))) (Sum.inr (f, df))
noncomputable def bS {α β : Type} (x : Int ⊕ α) (k : α → Int ⊕ β) : Int ⊕ β := Sum.casesOn x Sum.inl k
noncomputable def pPerson (T : Int → Int) (E f : Int) : Int ⊕ (Int × List Int) :=
  cif (pWd T E [119, 101, 105, 103, 104, 116] f) (cif (pN T E 1 99 (pSk T E (pWe T E f)))
    (bS (pOpt T E [97, 116] 0 7 (-1) (pSk T E (pDg T E (pSk T E (pWe T E f))))) (fun a => bS (pOpt T E [118, 111, 116, 101] 0 20 1 a.1) (fun b => bS (pOpt T E [108, 101, 103, 115] 3 4 4 b.1) (fun c => Sum.inr (c.1, [0, pNu T E (pSk T E (pWe T E f)), a.2, b.2, c.2])))))
    (Sum.inl (pSk T E (pWe T E f)))) (Sum.inl f)
noncomputable def f_swb (s : Nat) (ws : List Nat) : Bool := sx_isS s && ((sx_sb[sx_pl s - 2]? == some ws) && (Nat.blt ws.length 1000 && ws.all (fun b => Nat.blt b 128)))
theorem f_sw {s : Nat} {ws : List Nat} (h : f_swb s ws = true) : f_sk s ∧ fStr s = ws := by
  obtain ⟨h1, h2⟩ := f_and h
  obtain ⟨h2, h3⟩ := f_and h2
  obtain ⟨h3, h4⟩ := f_and h3
  have e : sx_sb[sx_pl s - 2]? = some ws := eq_of_beq h2
  have e2 : fStr s = ws := by unfold fStr; rw [e]; rfl
  refine ⟨⟨h1, by rw [e2]; exact e, by rw [e2]; exact sx_blt h3, fun b hb => ?_⟩, e2⟩
  rw [e2] at hb
  exact sx_blt (List.all_eq_true.mp h4 b hb)
section FXK
variable {W : ax_W} {r : Nat} {g : Nat → Nat → Int} {Q : Nat → Nat → (Nat → Nat → Int) → Prop} {T : Int → Int} {E : Int}
theorem sp_hasW {s : Nat} (ws : List Nat) (hw : f_swb s ws = true) {f : Int} (h : RT T E g) (h0 : 0 ≤ g 148 11) (h4 : g 148 11 ≤ E) (hf : pSk T E (g 148 11) = f)
    (k1 : pWd T E ws f → Q 1 (fI 1) (fu g 148 11 (pWe T E f))) (k2 : ¬ pWd T E ws f → Q 1 (fI 0) (fu g 148 11 f)) : fx W r 4 275 0 [1186, s, 7, 7] [] g Q := by
  obtain ⟨h1, h2⟩ := f_sw hw
  subst h2
  subst hf
  exact sp_has h h1 h0 h4 k1 k2
theorem sp_put {p w v : Int} (h0 : 0 ≤ p) (h1 : p ≤ 7) (h2 : 0 ≤ w) (h3 : w ≤ 6) (hv : fR v) (kq : Q 0 0 (fu g 149 (12 + 7 * p + w).toNat v)) : fx W r 0 288 0 [1186, fI p, fI w, fI v] [] g Q := by
  unfold fR at hv
  refine fx_la 0 1 (v := 1186) (by decide +kernel) rfl (by decide +kernel) ?_
  refine fx_gp 1186 148 1 1194 4 (by decide +kernel) ?_
  refine fx_ci (12) 6 (by decide +kernel) ?_
  refine fx_ci (7) 8 (by decide +kernel) ?_
  refine fx_li 1 9 (by decide +kernel) rfl ?_
  refine fx_mul 10 (by decide +kernel) rfl ?_
  refine fx_add 11 (by decide +kernel) rfl ?_
  refine fx_li 2 12 (by decide +kernel) rfl ?_
  refine fx_add 13 (by decide +kernel) rfl ?_
  refine fx_li 3 14 (by decide +kernel) rfl ?_
  refine fx_as 1194 149 764 15 (by decide +kernel) rfl (by omega) (by omega) rfl (by unfold fR; omega) ?_
  refine fx_vret (by decide +kernel) ?_
  exact kq
theorem RT_m (hb : g 148 9 = -1) (h : RT T E g) {j : Nat} {z : Int} : RT T E (fu g 149 j z) := by
  obtain ⟨a1, a2, a3, a4, a5⟩ := h
  refine ⟨by rw [fu_nc (by decide)]; exact a1, a2, a3, by rw [fu_nc (by decide)]; exact a4, fun k k0 k1 => ?_⟩
  have e : flt (fu g 149 j z) k = flt g k := by
    unfold flt
    rw [fu_nc (by decide), if_pos hb, if_pos hb, fu_nc (by decide)]
  rw [e]
  exact a5 k k0 k1
/-- what a person's line does -/
def apP (g : Nat → Nat → Int) (w pl v l : Int) : Nat → Nat → Int := fu (fu (fu (fu (fu (fu (fu (fu g 149 (12 + 7 * g 149 3 + 0).toNat pl) 149 (12 + 7 * g 149 3 + 1).toNat v) 149 (12 + 7 * g 149 3 + 2).toNat w) 149 (12 + 7 * g 149 3 + 3).toNat l) 149 (12 + 7 * g 149 3 + 4).toNat (-1)) 149 (12 + 7 * g 149 3 + 5).toNat 0) 149 (12 + 7 * g 149 3 + 6).toNat 0) 149 3 (g 149 3 + 1)
theorem sp_pl_f {b w x3 x4 x5 : Int} (hf : g 148 12 ≠ -1) (kq : Q 0 0 g) : fx W r 6 286 114 [1186, fI b, fI w, fI x3, fI x4, fI x5, 7] [] g Q := by
  refine fx_rg (fun hg => ?_)
  refine fx_la 0 115 (v := 1186) (by decide +kernel) rfl (by decide +kernel) ?_
  refine fx_gi 1186 148 12 118 (by decide +kernel) ?_
  refine fx_ci (-1) 119 (by decide +kernel) ?_
  refine fx_ieq 123 122 (by decide +kernel) (by first | exact hg 148 12 (by decide) (by decide +kernel) (by decide +kernel) | (unfold fR; omega)) (by unfold fR; omega) (fun h119 => ?_) (fun h119 => ?_)
  · exact absurd h119 hf
  · refine fx_vret (by decide +kernel) ?_
    exact kq
theorem sp_pl_D {b w x3 x4 x5 : Int} (hf : g 148 12 = -1) (hp0 : 0 ≤ g 149 3) (hp1 : g 149 3 ≤ 7) (hw : fR w) (h3 : fR x3) (h4 : fR x4) (h5 : fR x5) (kq : Q 0 0 (apP g w x3 x4 x5)) : fx W r 6 286 114 [1186, fI b, fI w, fI x3, fI x4, fI x5, 7] [] g Q := by
  refine fx_rg (fun hg => ?_)
  refine fx_la 0 115 (v := 1186) (by decide +kernel) rfl (by decide +kernel) ?_
  refine fx_gi 1186 148 12 118 (by decide +kernel) ?_
  refine fx_ci (-1) 119 (by decide +kernel) ?_
  refine fx_ieq 123 122 (by decide +kernel) (by first | exact hg 148 12 (by decide) (by decide +kernel) (by decide +kernel) | (unfold fR; omega)) (by unfold fR; omega) (fun h119 => ?_) (fun h119 => ?_)
  · refine fx_la 0 124 (v := 1186) (by decide +kernel) rfl (by decide +kernel) ?_
    refine fx_gp 1186 148 1 1194 127 (by decide +kernel) ?_
    refine fx_ci (3) 128 (by decide +kernel) ?_
    refine fx_al 1194 149 764 129 (by decide +kernel) rfl (by omega) (by omega) rfl ?_
    try simp only [fu_app, fcy_app, Nat.reduceEqDiff, and_true, and_false, false_and, true_and, if_true, if_false, ite_true, ite_false, reduceIte, Int.reduceToNat, fx_simp0]
    refine fx_si 6 131 (by decide +kernel) (Or.inr (fI_n4 _)) rfl ?_
    dsimp only [List.set]
    refine fx_la 0 132 (v := 1186) (by decide +kernel) rfl (by decide +kernel) ?_
    refine fx_li 6 134 (by decide +kernel) rfl ?_
    refine fx_ci (0) 135 (by decide +kernel) ?_
    refine fx_li 3 136 (by decide +kernel) rfl ?_
    refine fx_c4 288 21 139 0 [] (by decide +kernel) (by decide) (by decide) (fI_n4 _) (fI_n4 _) (fI_n4 _) rfl (by first | decide | omega) ?_
    refine sp_put hp0 hp1 (by decide) (by decide) h3 (fK0 ?_)
    refine fx_la 0 140 (v := 1186) (by decide +kernel) rfl (by decide +kernel) ?_
    refine fx_li 6 142 (by decide +kernel) rfl ?_
    refine fx_ci (1) 143 (by decide +kernel) ?_
    refine fx_li 4 145 (by decide +kernel) rfl ?_
    refine fx_c4 288 21 148 0 [] (by decide +kernel) (by decide) (by decide) (fI_n4 _) (fI_n4 _) (fI_n4 _) rfl (by first | decide | omega) ?_
    refine sp_put hp0 hp1 (by decide) (by decide) h4 (fK0 ?_)
    refine fx_la 0 149 (v := 1186) (by decide +kernel) rfl (by decide +kernel) ?_
    refine fx_li 6 151 (by decide +kernel) rfl ?_
    refine fx_ci (2) 152 (by decide +kernel) ?_
    refine fx_li 2 153 (by decide +kernel) rfl ?_
    refine fx_c4 288 21 156 0 [] (by decide +kernel) (by decide) (by decide) (fI_n4 _) (fI_n4 _) (fI_n4 _) rfl (by first | decide | omega) ?_
    refine sp_put hp0 hp1 (by decide) (by decide) hw (fK0 ?_)
    refine fx_la 0 157 (v := 1186) (by decide +kernel) rfl (by decide +kernel) ?_
    refine fx_li 6 159 (by decide +kernel) rfl ?_
    refine fx_ci (3) 160 (by decide +kernel) ?_
    refine fx_li 5 162 (by decide +kernel) rfl ?_
    refine fx_c4 288 21 165 0 [] (by decide +kernel) (by decide) (by decide) (fI_n4 _) (fI_n4 _) (fI_n4 _) rfl (by first | decide | omega) ?_
    refine sp_put hp0 hp1 (by decide) (by decide) h5 (fK0 ?_)
    refine fx_la 0 166 (v := 1186) (by decide +kernel) rfl (by decide +kernel) ?_
    refine fx_li 6 168 (by decide +kernel) rfl ?_
    refine fx_ci (4) 169 (by decide +kernel) ?_
    refine fx_ci (-1) 170 (by decide +kernel) ?_
    refine fx_c4 288 21 173 0 [] (by decide +kernel) (by decide) (by decide) (fI_n4 _) (fI_n4 _) (fI_n4 _) rfl (by first | decide | omega) ?_
    refine sp_put hp0 hp1 (by decide) (by decide) (by unfold fR; omega) (fK0 ?_)
    refine fx_la 0 174 (v := 1186) (by decide +kernel) rfl (by decide +kernel) ?_
    refine fx_li 6 176 (by decide +kernel) rfl ?_
    refine fx_ci (5) 177 (by decide +kernel) ?_
    refine fx_ci (0) 178 (by decide +kernel) ?_
    refine fx_c4 288 21 181 0 [] (by decide +kernel) (by decide) (by decide) (fI_n4 _) (fI_n4 _) (fI_n4 _) rfl (by first | decide | omega) ?_
    refine sp_put hp0 hp1 (by decide) (by decide) (by unfold fR; omega) (fK0 ?_)
    refine fx_la 0 182 (v := 1186) (by decide +kernel) rfl (by decide +kernel) ?_
    refine fx_li 6 184 (by decide +kernel) rfl ?_
    refine fx_ci (6) 186 (by decide +kernel) ?_
    refine fx_ci (0) 187 (by decide +kernel) ?_
    refine fx_c4 288 21 190 0 [] (by decide +kernel) (by decide) (by decide) (fI_n4 _) (fI_n4 _) (fI_n4 _) rfl (by first | decide | omega) ?_
    refine sp_put hp0 hp1 (by decide) (by decide) (by unfold fR; omega) (fK0 ?_)
    refine fx_la 0 191 (v := 1186) (by decide +kernel) rfl (by decide +kernel) ?_
    refine fx_gp 1186 148 1 1194 194 (by decide +kernel) ?_
    refine fx_ci (3) 195 (by decide +kernel) ?_
    refine fx_dup2 196 (by decide +kernel) rfl (fI_n4 _) (by decide) ?_
    refine fx_al 1194 149 764 197 (by decide +kernel) rfl (by omega) (by omega) rfl ?_
    try simp only [fu_app, fcy_app, Nat.reduceEqDiff, and_true, and_false, false_and, true_and, if_true, if_false, ite_true, ite_false, reduceIte, Int.reduceToNat, fx_simp0]
    rw [if_neg (by omega), if_neg (by omega), if_neg (by omega), if_neg (by omega), if_neg (by omega), if_neg (by omega), if_neg (by omega)]
    refine fx_ci (1) 198 (by decide +kernel) ?_
    refine fx_add 199 (by decide +kernel) rfl ?_
    refine fx_as 1194 149 764 200 (by decide +kernel) rfl (by omega) (by omega) rfl (by unfold fR; omega) ?_
    refine fx_vret (by decide +kernel) ?_
    exact kq
  · refine fx_vret (by decide +kernel) ?_
    exact absurd hf h119
theorem sp_pl_fC {b w x3 x4 : Int} (hf : g 148 12 ≠ -1) (kq : Q 0 0 g) : fx W r 6 286 85 [1186, fI b, fI w, fI x3, fI x4, 7, 7] [] g Q := by
  refine fx_rg (fun hg => ?_)
  refine fx_la 0 86 (v := 1186) (by decide +kernel) rfl (by decide +kernel) ?_
  refine fx_gi 1186 148 12 89 (by decide +kernel) ?_
  refine fx_ci (-1) 90 (by decide +kernel) ?_
  refine fx_ine 111 93 (by decide +kernel) (by first | exact hg 148 12 (by decide) (by decide +kernel) (by decide +kernel) | (unfold fR; omega)) (by unfold fR; omega) (fun h90 => ?_) (fun h90 => ?_)
  · refine fx_ci (4) 112 (by decide +kernel) ?_
    refine fx_si 5 114 (by decide +kernel) (Or.inr (fI_n4 _)) rfl ?_
    dsimp only [List.set]
    exact sp_pl_f hf kq
  · refine fx_la 0 94 (v := 1186) (by decide +kernel) rfl (by decide +kernel) ?_
    refine fx_lds 533 96 (by decide +kernel) ?_
    refine fx_c2 275 21 99 4 [7, 7] (by decide +kernel) (by decide) (by decide) (by decide) rfl (by first | decide | omega) ?_
    exact absurd h90 hf
theorem sp_pl_C {b w x3 x4 : Int} {f : Int} (h : RT T E g) (hf : g 148 12 = -1) (h0 : 0 ≤ g 148 11) (h4 : g 148 11 ≤ E) (hsk : pSk T E (g 148 11) = f)
    (kq : ∀ f' v, pOpt T E [108, 101, 103, 115] 3 4 (4) f = Sum.inr (f', v) → fR v → ∀ a, 0 ≤ a → a ≤ E → pSk T E a = f' → fx W r 6 286 114 [1186, fI b, fI w, fI x3, fI x4, fI v, 7] [] (fu g 148 11 a) Q)
    (kf : ∀ q, pOpt T E [108, 101, 103, 115] 3 4 (4) f = Sum.inl q → ∀ a, 0 ≤ a → a ≤ E → Q 0 0 (fu (fu g 148 11 a) 148 12 q)) : fx W r 6 286 85 [1186, fI b, fI w, fI x3, fI x4, 7, 7] [] g Q := by
  have aE := h.2.1
  have a3 := h.2.2.1
  refine fx_rg (fun hg => ?_)
  have f0 := pSk_ge T E (g 148 11)
  have f1 := pSk_le (T := T) h4
  have f2 : 0 ≤ f ∧ f ≤ E ∧ pSk T E f = f := by subst hsk; exact ⟨by omega, f1, pSk_id h4⟩
  obtain ⟨f2, f3, f4⟩ := f2
  have w0 := pWe_ge T E (f)
  have w1 := pWe_le (T := T) f3
  have s0 := pSk_ge T E (pWe T E f)
  have s1 := pSk_le (T := T) w1
  have n0 := pDg_ge T E (pSk T E (pWe T E f))
  have n1 := pDg_le (T := T) s1
  unfold pOpt at kq kf
  refine fx_la 0 86 (v := 1186) (by decide +kernel) rfl (by decide +kernel) ?_
  refine fx_gi 1186 148 12 89 (by decide +kernel) ?_
  refine fx_ci (-1) 90 (by decide +kernel) ?_
  refine fx_ine 111 93 (by decide +kernel) (by first | exact hg 148 12 (by decide) (by decide +kernel) (by decide +kernel) | (unfold fR; omega)) (by unfold fR; omega) (fun h90 => ?_) (fun h90 => ?_)
  · refine fx_ci (4) 112 (by decide +kernel) ?_
    refine fx_si 5 114 (by decide +kernel) (Or.inr (fI_n4 _)) rfl ?_
    dsimp only [List.set]
    exact absurd hf h90
  · refine fx_la 0 94 (v := 1186) (by decide +kernel) rfl (by decide +kernel) ?_
    refine fx_lds 533 96 (by decide +kernel) ?_
    refine fx_c2 275 21 99 4 [7, 7] (by decide +kernel) (by decide) (by decide) (by decide) rfl (by first | decide | omega) ?_
    refine sp_hasW [108, 101, 103, 115] (by decide +kernel) h h0 h4 hsk (fun b => fK1 ?_) (fun b => fK1 ?_)
    · refine fx_zeq 111 102 (by decide +kernel) (by unfold fR; omega) (fun hc => absurd hc (by decide)) (fun _ => ?_)
      refine fx_la 0 103 (v := 1186) (by decide +kernel) rfl (by decide +kernel) ?_
      refine fx_ci (3) 104 (by decide +kernel) ?_
      refine fx_ci (4) 105 (by decide +kernel) ?_
      refine fx_c3 276 21 108 3 [7, 7] (by decide +kernel) (by decide) (by decide) (fI_n4 _) (fI_n4 _) rfl (by first | decide | omega) ?_
      refine sp_figures (RT_fu h (by decide) (by decide)) (by rw [fu_nj (by decide)]; exact hf) (by rw [fu_eq]; omega) (by rw [fu_eq]; omega) (by unfold fR; omega) (by unfold fR; omega) (fun p => fK1 ?_) (fun p a v q1 q2 q3 => fK1 ?_)
      · rw [fu_eq] at p
        simp only [fu_eq, fu_fu]
        refine fx_go 112 (by decide +kernel) ?_
        refine fx_si 5 114 (by decide +kernel) (Or.inr (fI_n4 _)) rfl ?_
        dsimp only [List.set]
        refine kq _ _ (by rw [cif_t b, cif_t p]) ?_ _ (by omega) (by omega) rfl
        have := p.2.2
        unfold fR
        omega
      · rw [fu_eq] at p
        simp only [fu_eq, fu_fu]
        refine fx_go 112 (by decide +kernel) ?_
        refine fx_si 5 114 (by decide +kernel) (Or.inr (fI_n4 _)) rfl ?_
        dsimp only [List.set]
        exact sp_pl_f (by rw [fu_eq]; omega) (kf _ (by rw [cif_t b, cif_f p]) a q1 q2)
    · refine fx_zeq 111 102 (by decide +kernel) (by unfold fR; omega) (fun _ => ?_) (fun hc => absurd hc (by decide))
      refine fx_ci (4) 112 (by decide +kernel) ?_
      refine fx_si 5 114 (by decide +kernel) (Or.inr (fI_n4 _)) rfl ?_
      dsimp only [List.set]
      exact kq _ _ (by rw [cif_f b]) (by unfold fR; omega) _ f2 f3 f4
theorem sp_pl_fB {b w x3 : Int} (hf : g 148 12 ≠ -1) (kq : Q 0 0 g) : fx W r 6 286 55 [1186, fI b, fI w, fI x3, 7, 7, 7] [] g Q := by
  refine fx_rg (fun hg => ?_)
  refine fx_la 0 56 (v := 1186) (by decide +kernel) rfl (by decide +kernel) ?_
  refine fx_gi 1186 148 12 59 (by decide +kernel) ?_
  refine fx_ci (-1) 60 (by decide +kernel) ?_
  refine fx_ine 82 63 (by decide +kernel) (by first | exact hg 148 12 (by decide) (by decide +kernel) (by decide +kernel) | (unfold fR; omega)) (by unfold fR; omega) (fun h60 => ?_) (fun h60 => ?_)
  · refine fx_ci (1) 83 (by decide +kernel) ?_
    refine fx_si 4 85 (by decide +kernel) (Or.inr (fI_n4 _)) rfl ?_
    dsimp only [List.set]
    exact sp_pl_fC hf kq
  · refine fx_la 0 64 (v := 1186) (by decide +kernel) rfl (by decide +kernel) ?_
    refine fx_lds 485 66 (by decide +kernel) ?_
    refine fx_c2 275 21 69 4 [7, 7] (by decide +kernel) (by decide) (by decide) (by decide) rfl (by first | decide | omega) ?_
    exact absurd h60 hf
theorem sp_pl_B {b w x3 : Int} {f : Int} (h : RT T E g) (hf : g 148 12 = -1) (h0 : 0 ≤ g 148 11) (h4 : g 148 11 ≤ E) (hsk : pSk T E (g 148 11) = f)
    (kq : ∀ f' v, pOpt T E [118, 111, 116, 101] 0 20 (1) f = Sum.inr (f', v) → fR v → ∀ a, 0 ≤ a → a ≤ E → pSk T E a = f' → fx W r 6 286 85 [1186, fI b, fI w, fI x3, fI v, 7, 7] [] (fu g 148 11 a) Q)
    (kf : ∀ q, pOpt T E [118, 111, 116, 101] 0 20 (1) f = Sum.inl q → ∀ a, 0 ≤ a → a ≤ E → Q 0 0 (fu (fu g 148 11 a) 148 12 q)) : fx W r 6 286 55 [1186, fI b, fI w, fI x3, 7, 7, 7] [] g Q := by
  have aE := h.2.1
  have a3 := h.2.2.1
  refine fx_rg (fun hg => ?_)
  have f0 := pSk_ge T E (g 148 11)
  have f1 := pSk_le (T := T) h4
  have f2 : 0 ≤ f ∧ f ≤ E ∧ pSk T E f = f := by subst hsk; exact ⟨by omega, f1, pSk_id h4⟩
  obtain ⟨f2, f3, f4⟩ := f2
  have w0 := pWe_ge T E (f)
  have w1 := pWe_le (T := T) f3
  have s0 := pSk_ge T E (pWe T E f)
  have s1 := pSk_le (T := T) w1
  have n0 := pDg_ge T E (pSk T E (pWe T E f))
  have n1 := pDg_le (T := T) s1
  unfold pOpt at kq kf
  refine fx_la 0 56 (v := 1186) (by decide +kernel) rfl (by decide +kernel) ?_
  refine fx_gi 1186 148 12 59 (by decide +kernel) ?_
  refine fx_ci (-1) 60 (by decide +kernel) ?_
  refine fx_ine 82 63 (by decide +kernel) (by first | exact hg 148 12 (by decide) (by decide +kernel) (by decide +kernel) | (unfold fR; omega)) (by unfold fR; omega) (fun h60 => ?_) (fun h60 => ?_)
  · refine fx_ci (1) 83 (by decide +kernel) ?_
    refine fx_si 4 85 (by decide +kernel) (Or.inr (fI_n4 _)) rfl ?_
    dsimp only [List.set]
    exact absurd hf h60
  · refine fx_la 0 64 (v := 1186) (by decide +kernel) rfl (by decide +kernel) ?_
    refine fx_lds 485 66 (by decide +kernel) ?_
    refine fx_c2 275 21 69 4 [7, 7] (by decide +kernel) (by decide) (by decide) (by decide) rfl (by first | decide | omega) ?_
    refine sp_hasW [118, 111, 116, 101] (by decide +kernel) h h0 h4 hsk (fun b => fK1 ?_) (fun b => fK1 ?_)
    · refine fx_zeq 82 72 (by decide +kernel) (by unfold fR; omega) (fun hc => absurd hc (by decide)) (fun _ => ?_)
      refine fx_la 0 73 (v := 1186) (by decide +kernel) rfl (by decide +kernel) ?_
      refine fx_ci (0) 74 (by decide +kernel) ?_
      refine fx_ci (20) 76 (by decide +kernel) ?_
      refine fx_c3 276 21 79 3 [7, 7] (by decide +kernel) (by decide) (by decide) (fI_n4 _) (fI_n4 _) rfl (by first | decide | omega) ?_
      refine sp_figures (RT_fu h (by decide) (by decide)) (by rw [fu_nj (by decide)]; exact hf) (by rw [fu_eq]; omega) (by rw [fu_eq]; omega) (by unfold fR; omega) (by unfold fR; omega) (fun p => fK1 ?_) (fun p a v q1 q2 q3 => fK1 ?_)
      · rw [fu_eq] at p
        simp only [fu_eq, fu_fu]
        refine fx_go 83 (by decide +kernel) ?_
        refine fx_si 4 85 (by decide +kernel) (Or.inr (fI_n4 _)) rfl ?_
        dsimp only [List.set]
        refine kq _ _ (by rw [cif_t b, cif_t p]) ?_ _ (by omega) (by omega) rfl
        have := p.2.2
        unfold fR
        omega
      · rw [fu_eq] at p
        simp only [fu_eq, fu_fu]
        refine fx_go 83 (by decide +kernel) ?_
        refine fx_si 4 85 (by decide +kernel) (Or.inr (fI_n4 _)) rfl ?_
        dsimp only [List.set]
        exact sp_pl_fC (by rw [fu_eq]; omega) (kf _ (by rw [cif_t b, cif_f p]) a q1 q2)
    · refine fx_zeq 82 72 (by decide +kernel) (by unfold fR; omega) (fun _ => ?_) (fun hc => absurd hc (by decide))
      refine fx_ci (1) 83 (by decide +kernel) ?_
      refine fx_si 4 85 (by decide +kernel) (Or.inr (fI_n4 _)) rfl ?_
      dsimp only [List.set]
      exact kq _ _ (by rw [cif_f b]) (by unfold fR; omega) _ f2 f3 f4
theorem sp_pl_fA {b w : Int} (hf : g 148 12 ≠ -1) (kq : Q 0 0 g) : fx W r 6 286 26 [1186, fI b, fI w, 7, 7, 7, 7] [] g Q := by
  refine fx_rg (fun hg => ?_)
  refine fx_la 0 27 (v := 1186) (by decide +kernel) rfl (by decide +kernel) ?_
  refine fx_gi 1186 148 12 30 (by decide +kernel) ?_
  refine fx_ci (-1) 31 (by decide +kernel) ?_
  refine fx_ine 53 34 (by decide +kernel) (by first | exact hg 148 12 (by decide) (by decide +kernel) (by decide +kernel) | (unfold fR; omega)) (by unfold fR; omega) (fun h31 => ?_) (fun h31 => ?_)
  · refine fx_ci (-1) 54 (by decide +kernel) ?_
    refine fx_si 3 55 (by decide +kernel) (Or.inr (fI_n4 _)) rfl ?_
    dsimp only [List.set]
    exact sp_pl_fB hf kq
  · refine fx_la 0 35 (v := 1186) (by decide +kernel) rfl (by decide +kernel) ?_
    refine fx_lds 525 37 (by decide +kernel) ?_
    refine fx_c2 275 21 40 4 [7, 7] (by decide +kernel) (by decide) (by decide) (by decide) rfl (by first | decide | omega) ?_
    exact absurd h31 hf
theorem sp_pl_A {b w : Int} {f : Int} (h : RT T E g) (hf : g 148 12 = -1) (h0 : 0 ≤ g 148 11) (h4 : g 148 11 ≤ E) (hsk : pSk T E (g 148 11) = f)
    (kq : ∀ f' v, pOpt T E [97, 116] 0 7 (-1) f = Sum.inr (f', v) → fR v → ∀ a, 0 ≤ a → a ≤ E → pSk T E a = f' → fx W r 6 286 55 [1186, fI b, fI w, fI v, 7, 7, 7] [] (fu g 148 11 a) Q)
    (kf : ∀ q, pOpt T E [97, 116] 0 7 (-1) f = Sum.inl q → ∀ a, 0 ≤ a → a ≤ E → Q 0 0 (fu (fu g 148 11 a) 148 12 q)) : fx W r 6 286 26 [1186, fI b, fI w, 7, 7, 7, 7] [] g Q := by
  have aE := h.2.1
  have a3 := h.2.2.1
  refine fx_rg (fun hg => ?_)
  have f0 := pSk_ge T E (g 148 11)
  have f1 := pSk_le (T := T) h4
  have f2 : 0 ≤ f ∧ f ≤ E ∧ pSk T E f = f := by subst hsk; exact ⟨by omega, f1, pSk_id h4⟩
  obtain ⟨f2, f3, f4⟩ := f2
  have w0 := pWe_ge T E (f)
  have w1 := pWe_le (T := T) f3
  have s0 := pSk_ge T E (pWe T E f)
  have s1 := pSk_le (T := T) w1
  have n0 := pDg_ge T E (pSk T E (pWe T E f))
  have n1 := pDg_le (T := T) s1
  unfold pOpt at kq kf
  refine fx_la 0 27 (v := 1186) (by decide +kernel) rfl (by decide +kernel) ?_
  refine fx_gi 1186 148 12 30 (by decide +kernel) ?_
  refine fx_ci (-1) 31 (by decide +kernel) ?_
  refine fx_ine 53 34 (by decide +kernel) (by first | exact hg 148 12 (by decide) (by decide +kernel) (by decide +kernel) | (unfold fR; omega)) (by unfold fR; omega) (fun h31 => ?_) (fun h31 => ?_)
  · refine fx_ci (-1) 54 (by decide +kernel) ?_
    refine fx_si 3 55 (by decide +kernel) (Or.inr (fI_n4 _)) rfl ?_
    dsimp only [List.set]
    exact absurd hf h31
  · refine fx_la 0 35 (v := 1186) (by decide +kernel) rfl (by decide +kernel) ?_
    refine fx_lds 525 37 (by decide +kernel) ?_
    refine fx_c2 275 21 40 4 [7, 7] (by decide +kernel) (by decide) (by decide) (by decide) rfl (by first | decide | omega) ?_
    refine sp_hasW [97, 116] (by decide +kernel) h h0 h4 hsk (fun b => fK1 ?_) (fun b => fK1 ?_)
    · refine fx_zeq 53 43 (by decide +kernel) (by unfold fR; omega) (fun hc => absurd hc (by decide)) (fun _ => ?_)
      refine fx_la 0 44 (v := 1186) (by decide +kernel) rfl (by decide +kernel) ?_
      refine fx_ci (0) 45 (by decide +kernel) ?_
      refine fx_ci (7) 47 (by decide +kernel) ?_
      refine fx_c3 276 21 50 3 [7, 7] (by decide +kernel) (by decide) (by decide) (fI_n4 _) (fI_n4 _) rfl (by first | decide | omega) ?_
      refine sp_figures (RT_fu h (by decide) (by decide)) (by rw [fu_nj (by decide)]; exact hf) (by rw [fu_eq]; omega) (by rw [fu_eq]; omega) (by unfold fR; omega) (by unfold fR; omega) (fun p => fK1 ?_) (fun p a v q1 q2 q3 => fK1 ?_)
      · rw [fu_eq] at p
        simp only [fu_eq, fu_fu]
        refine fx_go 54 (by decide +kernel) ?_
        refine fx_si 3 55 (by decide +kernel) (Or.inr (fI_n4 _)) rfl ?_
        dsimp only [List.set]
        refine kq _ _ (by rw [cif_t b, cif_t p]) ?_ _ (by omega) (by omega) rfl
        have := p.2.2
        unfold fR
        omega
      · rw [fu_eq] at p
        simp only [fu_eq, fu_fu]
        refine fx_go 54 (by decide +kernel) ?_
        refine fx_si 3 55 (by decide +kernel) (Or.inr (fI_n4 _)) rfl ?_
        dsimp only [List.set]
        exact sp_pl_fB (by rw [fu_eq]; omega) (kf _ (by rw [cif_t b, cif_f p]) a q1 q2)
    · refine fx_zeq 53 43 (by decide +kernel) (by unfold fR; omega) (fun _ => ?_) (fun hc => absurd hc (by decide))
      refine fx_ci (-1) 54 (by decide +kernel) ?_
      refine fx_si 3 55 (by decide +kernel) (Or.inr (fI_n4 _)) rfl ?_
      dsimp only [List.set]
      exact kq _ _ (by rw [cif_f b]) (by unfold fR; omega) _ f2 f3 f4
end FXK
