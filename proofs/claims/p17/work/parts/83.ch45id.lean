/-! fx: whether a line of the law holds: the class -/
noncomputable def fsw_tg (k n : Nat) : Nat := Option.rec 0 (fun q => sx_tg1 q (2147483648 + n)) (sx_nth sx_tsw k)
section FSW
variable {W : ax_W} {r d mi pc : Nat} {L S : List Nat} {g : Nat → Nat → Int} {Q : Nat → Nat → (Nat → Nat → Int) → Prop}
theorem fx_swk (k : Nat) {n t : Nat} (q : (fq mi pc 37 && (Nat.beq (sx_wa (fw mi pc)) k && Option.rec false (fun _ => true) (sx_nth sx_tsw k))) = true) (hn : n < 2147483648) (ht : fsw_tg k n = t) (kk : fx W r d mi t L S g Q) : fx W r d mi pc L (fI (n : Int) :: S) g Q := by
  subst ht
  obtain ⟨q1, q⟩ := f_and q
  obtain ⟨q2, q3⟩ := f_and q
  obtain ⟨o1, o2⟩ := fq_ok q1
  refine fx_s o2 (fun ih D h cs ss _ => ?_) kk
  have e8 : fI (n : Int) = 8 * n := by unfold fI; omega
  have nm : ∀ K : Nat → sx_R, sx_nm W.sy (fI (n : Int)) K = K (fI (n : Int)) := fun K => by rw [fI_eq, cx_nm]
  have bs : sx_bs (sx_pl (fI (n : Int))) = 2147483648 + n := by
    rw [e8]
    show ((8 * n) / 8 + 2147483648) % 4294967296 = 2147483648 + n
    omega
  rw [cx_b37 o1]
  unfold sx_oSw
  rw [fcp1, show sx_wa (sx_ft (sx_mt mi).1 pc) = k from sx_beq q2]
  unfold fsw_tg
  cases hq : sx_nth sx_tsw k with
  | none => rw [hq] at q3; cases q3
  | some q =>
    show sx_nm W.sy (fI (n : Int)) _ = _
    rw [nm, fI_tg, sx_beq_t rfl, sx_if_t, sx_fo_eq, bs]
end FSW
def fSt (g g' : Nat → Nat → Int) : Prop := ∀ c j, c ≠ 15 → g' c j = g c j
theorem fSt.rf {g : Nat → Nat → Int} : fSt g g := fun _ _ _ => rfl
theorem fSt.fu {g g' : Nat → Nat → Int} {j : Nat} {z : Int} (h : fSt g g') : fSt g (fu g' 15 j z) := fun c j' hc => by rw [fu_nc hc]; exact h c j' hc
theorem fSt.tr {g g1 g2 : Nat → Nat → Int} (h : fSt g g1) (h2 : fSt g1 g2) : fSt g g2 := fun c j hc => by rw [h2 c j hc, h c j hc]
/-- the stack as the class has it -/
def stC (g : Nat → Nat → Int) (st : List Int) : Prop := ∀ k : Nat, k < st.length → g 15 k = st.getD (st.length - 1 - k) 0
theorem stC_tl {g : Nat → Nat → Int} {b : Int} {t : List Int} (h : stC g (b :: t)) : stC g t := fun k hk => by
  have := h k (by rw [List.length_cons]; omega)
  rw [List.length_cons, show t.length + 1 - 1 - k = (t.length - 1 - k) + 1 by omega] at this
  exact this
theorem stC_hd {g : Nat → Nat → Int} {b : Int} {t : List Int} (h : stC g (b :: t)) : g 15 t.length = b := by
  have := h t.length (by rw [List.length_cons]; omega)
  rw [List.length_cons, show t.length + 1 - 1 - t.length = 0 by omega] at this
  exact this
theorem stC_pu {g : Nat → Nat → Int} {v : Int} {t : List Int} (h : stC g t) : stC (fu g 15 t.length v) (v :: t) := fun k hk => by
  rw [List.length_cons] at hk ⊢
  by_cases e : k = t.length
  · subst e
    rw [fu_eq, show t.length + 1 - 1 - t.length = 0 by omega]
    rfl
  · rw [fu_nj e, show t.length + 1 - 1 - k = (t.length - 1 - k) + 1 by omega]
    exact h k (by omega)
/-- the facts that the class was told -/
def fC (g : Nat → Nat → Int) (k : Nat) : Int := g 14 (min k 8)
section FID
variable {W : ax_W} {r : Nat} {g : Nat → Nat → Int} {Q : Nat → Nat → (Nat → Nat → Int) → Prop}
theorem sp_ljoined {s a b : Int} (hs : 2000 ≤ s) (hs1 : s ≤ 2005) (hs3 : s ≠ 2003) (ha : fR a) (hb : fR b) (kq : Q 1 (fI (jnS s a b)) g) : fx W r 0 131 0 [fI s, fI a, fI b] [] g Q := by
  unfold jnS at kq
  rcases (by omega : s = 2000 ∨ s = 2001 ∨ s = 2002 ∨ s = 2004 ∨ s = 2005) with rfl | rfl | rfl | rfl | rfl
  · rw [if_pos rfl, fI_add] at kq
    refine fx_li 0 1 (by decide +kernel) rfl ?_
    refine fx_swk 3 (n := 2000) (t := 36) (by decide +kernel) (by decide) (by decide +kernel) ?_
    refine fx_li 1 37 (by decide +kernel) rfl ?_
    refine fx_li 2 38 (by decide +kernel) rfl ?_
    refine fx_add 39 (by decide +kernel) rfl ?_
    refine fx_ret (by decide +kernel) ?_
    exact kq
  · rw [if_neg (by decide), if_pos rfl] at kq
    refine fx_li 0 1 (by decide +kernel) rfl ?_
    refine fx_swk 3 (n := 2001) (t := 40) (by decide +kernel) (by decide) (by decide +kernel) ?_
    unfold fR at ha hb
    refine fx_li 1 41 (by decide +kernel) rfl ?_
    refine fx_li 2 42 (by decide +kernel) rfl ?_
    refine fx_ige 49 45 (by decide +kernel) (by unfold fR; omega) (by unfold fR; omega) (fun h42 => ?_) (fun h42 => ?_)
    · refine fx_ci (0) 50 (by decide +kernel) ?_
      refine fx_ret (by decide +kernel) ?_
      rw [if_neg (by omega)] at kq
      exact kq
    · refine fx_ci (1) 46 (by decide +kernel) ?_
      refine fx_go 50 (by decide +kernel) ?_
      refine fx_ret (by decide +kernel) ?_
      rw [if_pos (by omega)] at kq
      exact kq
  · rw [if_neg (by decide), if_neg (by decide), if_pos rfl] at kq
    refine fx_li 0 1 (by decide +kernel) rfl ?_
    refine fx_swk 3 (n := 2002) (t := 51) (by decide +kernel) (by decide) (by decide +kernel) ?_
    unfold fR at ha hb
    refine fx_li 1 52 (by decide +kernel) rfl ?_
    refine fx_li 2 53 (by decide +kernel) rfl ?_
    refine fx_ile 60 56 (by decide +kernel) (by unfold fR; omega) (by unfold fR; omega) (fun h53 => ?_) (fun h53 => ?_)
    · refine fx_ci (0) 61 (by decide +kernel) ?_
      refine fx_ret (by decide +kernel) ?_
      rw [if_neg (by omega)] at kq
      exact kq
    · refine fx_ci (1) 57 (by decide +kernel) ?_
      refine fx_go 61 (by decide +kernel) ?_
      refine fx_ret (by decide +kernel) ?_
      rw [if_pos (by omega)] at kq
      exact kq
  · rw [if_neg (by decide), if_neg (by decide), if_neg (by decide), if_pos rfl] at kq
    refine fx_li 0 1 (by decide +kernel) rfl ?_
    refine fx_swk 3 (n := 2004) (t := 62) (by decide +kernel) (by decide) (by decide +kernel) ?_
    refine fx_li 1 63 (by decide +kernel) rfl ?_
    refine fx_li 2 64 (by decide +kernel) rfl ?_
    refine fx_bin 3 65 (by decide +kernel) rfl (fun h => absurd h (by decide)) ?_
    refine fx_ret (by decide +kernel) ?_
    exact kq
  · rw [if_neg (by decide), if_neg (by decide), if_neg (by decide), if_neg (by decide)] at kq
    refine fx_li 0 1 (by decide +kernel) rfl ?_
    refine fx_swk 3 (n := 2005) (t := 66) (by decide +kernel) (by decide) (by decide +kernel) ?_
    refine fx_li 1 67 (by decide +kernel) rfl ?_
    refine fx_li 2 68 (by decide +kernel) rfl ?_
    refine fx_bin 4 69 (by decide +kernel) rfl (fun h => absurd h (by decide)) ?_
    refine fx_ret (by decide +kernel) ?_
    exact kq
theorem jnS_R (s a b : Int) : fR (jnS s a b) := by
  unfold jnS
  split
  · exact fop_R _ _ _
  split
  · split <;> (unfold fR; omega)
  split
  · split <;> (unfold fR; omega)
  split
  · exact fop_R _ _ _
  · exact fop_R _ _ _
theorem sp_lholds_1 {i f0 : Nat} {d : List Int} (hi : i < 12) (hb : g 12 i = ((f0 + d.length : Nat) : Int)) (h400 : f0 + d.length ≤ 400) (hOK : LnOK (fC g) d) (kq : ∀ g', fSt g g' → Q 1 (fI (if lnV (fC g) d = 0 then 0 else 1)) g') : ∀ (w : List Int) (n : Nat) (st : List Int) (g' : Nat → Nat → Int) (x4 : Nat), x4 % 8 ≠ 4 → fSt g g' → stC g' st → st.length ≤ 24 → rnS (fC g) w st → ruS (fC g) w st = evS (fC g) d → f0 + d.length = n + w.length → (∀ k : Nat, k < w.length → g 13 (n + k) = w.getD k 0) → fx W r 1 130 9 [66, fI (i : Int), fI (st.length : Int), fI (n : Int), x4] [] g' Q
  | w, n, st, g', x4, h4, hx, hst, h24, hr, he, hn, hc => by
    refine fx_rg (fun hg => ?_)
    have l4 : ∀ v, v % 8 ≠ 4 → v % 8 ≠ 4 := fun _ h => h
    refine fx_li 3 10 (by decide +kernel) rfl ?_
    refine fx_la 0 11 (v := 66) (by decide +kernel) rfl (by decide +kernel) ?_
    refine fx_gp 66 8 3 98 14 (by decide +kernel) ?_
    refine fx_li 1 15 (by decide +kernel) rfl ?_
    refine fx_al 98 12 12 16 (by decide +kernel) rfl (by omega) (by omega) rfl ?_
    rw [show ((i : Int)).toNat = i from rfl, hx _ _ (by decide), hb]
    refine fx_ige 151 19 (by decide +kernel) (by unfold fR; omega) (by unfold fR; omega) (fun h16 => ?_) (fun h16 => ?_)
    · have w0 : w.length = 0 := by omega
      have w1 : w = [] := List.length_eq_zero_iff.mp w0
      subst w1
      rw [ruS_0] at he
      refine fx_li 2 152 (by decide +kernel) rfl ?_
      refine fx_zeq 164 155 (by decide +kernel) (by unfold fR; omega) (fun h152 => ?_) (fun h152 => ?_)
      · have s0 : st.length = 0 := by omega
        have s1 : st = [] := List.length_eq_zero_iff.mp s0
        refine fx_ci (1) 165 (by decide +kernel) ?_
        refine fx_go 169 (by decide +kernel) ?_
        refine fx_retb (by decide +kernel) (by first | exact Or.inl rfl | exact Or.inr rfl | omega) ?_
        subst s1
        have kq := kq g' hx
        have e : lnV (fC g) d = 1 := by
          rcases hOK with e | ⟨-, v, v1, v2⟩
          · unfold lnV
            rw [if_pos e]
          · rw [v2] at he
            cases he
        rw [e] at kq
        exact kq
      · have s0 : ¬ st.length = 0 := fun t => by omega
        refine fx_la 0 156 (v := 66) (by decide +kernel) rfl (by decide +kernel) ?_
        refine fx_gp 66 8 6 122 159 (by decide +kernel) ?_
        refine fx_ci (0) 160 (by decide +kernel) ?_
        refine fx_al 122 15 24 161 (by decide +kernel) rfl (by omega) (by omega) rfl ?_
        try simp only [fu_app, fcy_app, Nat.reduceEqDiff, and_true, and_false, false_and, true_and, if_true, if_false, ite_true, ite_false, reduceIte, Int.reduceToNat, fx_simp0]
        have key : ∃ v, (v = 0 ∨ v = 1) ∧ g' 15 0 = v ∧ lnV (fC g) d = v := by
          rcases hOK with e | ⟨-, v, v1, v2⟩
          · subst e
            have e2 : st = [] := he
            subst e2
            exact absurd rfl s0
          · rw [v2] at he
            subst he
            refine ⟨v, v1, stC_hd hst, ?_⟩
            unfold lnV
            by_cases e : d = []
            · subst e
              have e2 : ([] : List Int) = [v] := v2
              cases e2
            · rw [if_neg e, v2]
              rfl
        obtain ⟨v, v1, v2, v3⟩ := key
        rw [v2]
        have kq := kq g' hx
        rw [v3] at kq
        refine fx_zeq 168 164 (by decide +kernel) (by unfold fR; omega) (fun h161 => ?_) (fun h161 => ?_)
        · refine fx_ci (0) 169 (by decide +kernel) ?_
          refine fx_retb (by decide +kernel) (by first | exact Or.inl rfl | exact Or.inr rfl | omega) ?_
          rw [if_pos h161] at kq
          exact kq
        · refine fx_ci (1) 165 (by decide +kernel) ?_
          refine fx_go 169 (by decide +kernel) ?_
          refine fx_retb (by decide +kernel) (by first | exact Or.inl rfl | exact Or.inr rfl | omega) ?_
          rw [if_neg h161] at kq
          exact kq
    · have w0 : ¬ w = [] := fun t => by
        subst t
        have hn : f0 + d.length = n + 0 := hn
        omega
      obtain ⟨s, w', rfl⟩ : ∃ s w', w = s :: w' := List.exists_cons_of_ne_nil w0
      have hs0 : g 13 n = s := hc 0 (by rw [List.length_cons]; omega)
      have hn : f0 + d.length = n + (w'.length + 1) := hn
      have hc' : ∀ k : Nat, k < w'.length → g 13 ((n + 1) + k) = w'.getD k 0 := fun k hk => by
        rw [show n + 1 + k = n + (k + 1) by omega]
        exact hc (k + 1) (by rw [List.length_cons]; omega)
      rw [rnS_1] at hr
      obtain ⟨hr1, hr2⟩ := hr
      rw [ruS_1] at he
      have sb : 0 ≤ s ∧ s ≤ 2005 := by
        split at hr1
        · omega
        · split at hr1
          · omega
          · omega
      refine fx_la 0 20 (v := 66) (by decide +kernel) rfl (by decide +kernel) ?_
      refine fx_gp 66 8 4 106 23 (by decide +kernel) ?_
      refine fx_li 3 24 (by decide +kernel) rfl ?_
      refine fx_al 106 13 400 25 (by decide +kernel) rfl (by omega) (by omega) rfl ?_
      rw [show ((n : Int)).toNat = n from rfl, hx _ _ (by decide), hs0]
      refine fx_si 4 27 (by decide +kernel) (Or.inr (fI_n4 _)) rfl ?_
      dsimp only [List.set]
      refine fx_li 4 29 (by decide +kernel) rfl ?_
      refine fx_ci (2000) 32 (by decide +kernel) ?_
      refine fx_ige 77 35 (by decide +kernel) (by unfold fR; omega) (by unfold fR; omega) (fun h32 => ?_) (fun h32 => ?_)
      · rw [if_neg (by omega)] at hr1
        refine fx_li 4 79 (by decide +kernel) rfl ?_
        refine fx_ci (2003) 82 (by decide +kernel) ?_
        refine fx_ine 110 85 (by decide +kernel) (by unfold fR; omega) (by unfold fR; omega) (fun h82 => ?_) (fun h82 => ?_)
        · have s3 : s ≠ 2003 := by omega
          rw [if_neg s3] at hr1
          obtain ⟨b, t', et⟩ : ∃ b t', st = b :: t' := List.exists_cons_of_ne_nil (fun t => by rw [t] at hr1; exact absurd hr1.2 (by decide))
          subst et
          obtain ⟨a, t, et⟩ : ∃ a t, t' = a :: t := List.exists_cons_of_ne_nil (fun t => by rw [t] at hr1; exact absurd hr1.2 (show ¬ 2 ≤ 1 by decide))
          subst et
          rw [stp_jn _ (by omega) s3] at hr2 he
          have lc : (b :: a :: t).length = t.length + 2 := rfl
          have hd := stC_hd hst
          have hd2 := stC_hd (stC_tl hst)
          have ra := hgA hg 24 (c := 15) (j := t.length) (by decide +kernel) (by omega)
          have rb := hgA hg 24 (c := 15) (j := (a :: t).length) (by decide +kernel) (by show t.length + 1 < 24; omega)
          rw [hd2] at ra
          rw [hd] at rb
          refine fx_li 2 111 (by decide +kernel) rfl ?_
          refine fx_ci (1) 112 (by decide +kernel) ?_
          refine fx_ile 145 115 (by decide +kernel) (by unfold fR; omega) (by unfold fR; omega) (fun h112 => ?_) (fun h112 => ?_)
          · exfalso; omega
          · refine fx_inc 2 118 (-1) (by decide +kernel) rfl (Or.inr (fI_n4 _)) rfl ?_
            dsimp only [List.set]
            refine fx_la 0 119 (v := 66) (by decide +kernel) rfl (by decide +kernel) ?_
            refine fx_gp 66 8 6 122 122 (by decide +kernel) ?_
            refine fx_li 2 123 (by decide +kernel) rfl ?_
            refine fx_ci (1) 124 (by decide +kernel) ?_
            refine fx_sub 125 (by decide +kernel) rfl ?_
            refine fx_li 4 127 (by decide +kernel) rfl ?_
            refine fx_la 0 128 (v := 66) (by decide +kernel) rfl (by decide +kernel) ?_
            refine fx_gp 66 8 6 122 131 (by decide +kernel) ?_
            refine fx_li 2 132 (by decide +kernel) rfl ?_
            refine fx_ci (1) 133 (by decide +kernel) ?_
            refine fx_sub 134 (by decide +kernel) rfl ?_
            refine fx_al 122 15 24 135 (by decide +kernel) rfl (by omega) (by omega) rfl ?_
            rw [show (((b :: a :: t).length : Int) + -1 - 1).toNat = t.length by omega, hd2]
            refine fx_la 0 136 (v := 66) (by decide +kernel) rfl (by decide +kernel) ?_
            refine fx_gp 66 8 6 122 139 (by decide +kernel) ?_
            refine fx_li 2 140 (by decide +kernel) rfl ?_
            refine fx_al 122 15 24 141 (by decide +kernel) rfl (by omega) (by omega) rfl ?_
            rw [show (((b :: a :: t).length : Int) + -1).toNat = (a :: t).length by rw [lc]; show _ = t.length + 1; omega, hd]
            refine fx_c3 131 22 144 0 [] (f_q22 (by decide +kernel)) (by decide) (fI_n4 _) (fI_n4 _) (fI_n4 _) rfl (by first | decide | omega) ?_
            refine sp_ljoined (by omega) (by omega) s3 ra rb (fK1 ?_)
            have rj := jnS_R s a b
            unfold fR at rj
            refine fx_as 122 15 24 145 (by decide +kernel) rfl (by omega) (by omega) rfl (by unfold fR; omega) ?_
            refine fx_inc 3 148 (1) (by decide +kernel) rfl (Or.inr (fI_n4 _)) rfl ?_
            dsimp only [List.set]
            refine fx_go 9 (by decide +kernel) ?_
            rw [show (((b :: a :: t).length : Int) + -1 - 1).toNat = t.length by omega]
            have e : ((b :: a :: t).length : Int) + -1 = ((jnS s a b :: t).length : Int) := by rw [lc]; show _ = ((t.length + 1 : Nat) : Int); omega
            rw [e]
            exact sp_lholds_1 hi hb h400 hOK kq w' (n + 1) (jnS s a b :: t) _ _ (fI_n4 _) hx.fu (stC_pu (stC_tl (stC_tl hst))) (by rw [List.length_cons]; rw [List.length_cons, List.length_cons] at h24; omega) hr2 he (by omega) hc'
        · have s3 : s = 2003 := by omega
          rw [if_pos s3] at hr1
          obtain ⟨b, t, rfl, b01⟩ := hr1
          subst s3
          rw [stp_no] at hr2 he
          have lc : (b :: t).length = t.length + 1 := rfl
          have hd := stC_hd hst
          refine fx_li 2 86 (by decide +kernel) rfl ?_
          refine fx_zle 145 89 (by decide +kernel) (by unfold fR; omega) (fun h86 => ?_) (fun h86 => ?_)
          · exfalso; omega
          · refine fx_la 0 90 (v := 66) (by decide +kernel) rfl (by decide +kernel) ?_
            refine fx_gp 66 8 6 122 93 (by decide +kernel) ?_
            refine fx_li 2 94 (by decide +kernel) rfl ?_
            refine fx_ci (1) 95 (by decide +kernel) ?_
            refine fx_sub 96 (by decide +kernel) rfl ?_
            refine fx_ci (1) 97 (by decide +kernel) ?_
            refine fx_la 0 98 (v := 66) (by decide +kernel) rfl (by decide +kernel) ?_
            refine fx_gp 66 8 6 122 101 (by decide +kernel) ?_
            refine fx_li 2 102 (by decide +kernel) rfl ?_
            refine fx_ci (1) 103 (by decide +kernel) ?_
            refine fx_sub 104 (by decide +kernel) rfl ?_
            refine fx_al 122 15 24 105 (by decide +kernel) rfl (by omega) (by omega) rfl ?_
            rw [show (((b :: t).length : Int) - 1).toNat = t.length by omega, hd]
            refine fx_sub 106 (by decide +kernel) rfl ?_
            refine fx_as 122 15 24 107 (by decide +kernel) rfl (by omega) (by omega) rfl (by unfold fR; omega) ?_
            refine fx_go 145 (by decide +kernel) ?_
            refine fx_inc 3 148 (1) (by decide +kernel) rfl (Or.inr (fI_n4 _)) rfl ?_
            dsimp only [List.set]
            refine fx_go 9 (by decide +kernel) ?_
            rw [show (((b :: t).length : Int) - 1).toNat = t.length by omega]
            exact sp_lholds_1 hi hb h400 hOK kq w' (n + 1) ((1 - b) :: t) _ _ (fI_n4 _) hx.fu (stC_pu (stC_tl hst)) h24 hr2 he (by omega) hc'
      · rw [if_pos (by omega)] at hr1
        rw [stp_lt _ (by omega)] at hr2 he
        refine fx_li 2 36 (by decide +kernel) rfl ?_
        refine fx_ci (24) 38 (by decide +kernel) ?_
        refine fx_ige 145 41 (by decide +kernel) (by unfold fR; omega) (by unfold fR; omega) (fun h38 => ?_) (fun h38 => ?_)
        · exfalso; omega
        · refine fx_la 0 42 (v := 66) (by decide +kernel) rfl (by decide +kernel) ?_
          refine fx_gp 66 8 6 122 45 (by decide +kernel) ?_
          refine fx_li 2 46 (by decide +kernel) rfl ?_
          refine fx_li 4 48 (by decide +kernel) rfl ?_
          refine fx_ci (1000) 51 (by decide +kernel) ?_
          refine fx_ige 59 54 (by decide +kernel) (by unfold fR; omega) (by unfold fR; omega) (fun h51 => ?_) (fun h51 => ?_)
          · refine fx_la 0 60 (v := 66) (by decide +kernel) rfl (by decide +kernel) ?_
            refine fx_gp 66 8 5 114 63 (by decide +kernel) ?_
            refine fx_li 4 65 (by decide +kernel) rfl ?_
            refine fx_ci (1000) 68 (by decide +kernel) ?_
            refine fx_sub 69 (by decide +kernel) rfl ?_
            refine fx_al 114 14 9 70 (by decide +kernel) rfl (by omega) (by omega) rfl ?_
            have v1 : vS (fC g) s = g 14 (s - 1000).toNat := by unfold vS fC; rw [if_neg (by omega), Nat.min_eq_left (by omega)]
            rw [v1] at hr2 he
            rw [hx _ _ (by decide)]
            have r7 := hgA hg 9 (c := 14) (j := (s - 1000).toNat) (by decide +kernel) (by omega)
            rw [hx _ _ (by decide)] at r7
            unfold fR at r7
            refine fx_as 122 15 24 71 (by decide +kernel) rfl (by omega) (by omega) rfl (by unfold fR; omega) ?_
            refine fx_inc 2 74 (1) (by decide +kernel) rfl (Or.inr (fI_n4 _)) rfl ?_
            dsimp only [List.set]
            refine fx_go 145 (by decide +kernel) ?_
            refine fx_inc 3 148 (1) (by decide +kernel) rfl (Or.inr (fI_n4 _)) rfl ?_
            dsimp only [List.set]
            refine fx_go 9 (by decide +kernel) ?_
            rw [show ((st.length : Int)).toNat = st.length from rfl]
            exact sp_lholds_1 hi hb h400 hOK kq w' (n + 1) (_ :: st) _ _ (fI_n4 _) hx.fu (stC_pu hst) (by rw [List.length_cons]; omega) hr2 he (by omega) hc'
          · refine fx_li 4 56 (by decide +kernel) rfl ?_
            refine fx_go 70 (by decide +kernel) ?_
            have v1 : vS (fC g) s = s := by unfold vS; rw [if_pos (by omega)]
            rw [v1] at hr2 he
            refine fx_as 122 15 24 71 (by decide +kernel) rfl (by omega) (by omega) rfl (by unfold fR; omega) ?_
            refine fx_inc 2 74 (1) (by decide +kernel) rfl (Or.inr (fI_n4 _)) rfl ?_
            dsimp only [List.set]
            refine fx_go 145 (by decide +kernel) ?_
            refine fx_inc 3 148 (1) (by decide +kernel) rfl (Or.inr (fI_n4 _)) rfl ?_
            dsimp only [List.set]
            refine fx_go 9 (by decide +kernel) ?_
            rw [show ((st.length : Int)).toNat = st.length from rfl]
            exact sp_lholds_1 hi hb h400 hOK kq w' (n + 1) (s :: st) _ _ (fI_n4 _) hx.fu (stC_pu hst) (by rw [List.length_cons]; omega) hr2 he (by omega) hc'
theorem sp_lholds {i f0 : Nat} {d : List Int} (hi : i < 12) (hf : g 11 i = (f0 : Int)) (hb : g 12 i = ((f0 + d.length : Nat) : Int)) (h400 : f0 + d.length ≤ 400) (hc : ∀ k : Nat, k < d.length → g 13 (f0 + k) = d.getD k 0) (hOK : LnOK (fC g) d) (kq : ∀ g', fSt g g' → Q 1 (fI (if lnV (fC g) d = 0 then 0 else 1)) g') : fx W r 1 130 0 [66, fI (i : Int), 7, 7, 7] [] g Q := by
  have run : rnS (fC g) d [] := by
    rcases hOK with e | ⟨e, -⟩
    · subst e; exact True.intro
    · exact e
  refine fx_ci (0) 1 (by decide +kernel) ?_
  refine fx_si 2 2 (by decide +kernel) (Or.inr (fI_n4 _)) rfl ?_
  dsimp only [List.set]
  refine fx_la 0 3 (v := 66) (by decide +kernel) rfl (by decide +kernel) ?_
  refine fx_gp 66 8 2 90 6 (by decide +kernel) ?_
  refine fx_li 1 7 (by decide +kernel) rfl ?_
  refine fx_al 90 11 12 8 (by decide +kernel) rfl (by omega) (by omega) rfl ?_
  rw [show ((i : Int)).toNat = i from rfl, hf]
  refine fx_si 3 9 (by decide +kernel) (Or.inr (fI_n4 _)) rfl ?_
  dsimp only [List.set]
  exact sp_lholds_1 hi hb h400 hOK kq d f0 [] g 7 (by decide) fSt.rf (fun k hk => absurd hk (Nat.not_lt_zero _)) (by decide) run rfl rfl hc
end FID
