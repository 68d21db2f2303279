/-! fx: pairs of places that are alike, on both sides -/
/-- from the dish f on: two places are alike in all dishes of a set -/
def pAl (e : Nat → Int) (n set k o : Int) (f : Nat) : Prop := ∀ d : Nat, f ≤ d → (d : Int) < n → fbt set d = 0 ∨ e ((d : Int) * 8 + k).toNat = e ((d : Int) * 8 + o).toNat
noncomputable def pCi (e : Nat → Int) (n set k : Int) : Nat → Int → Int → Int
  | 0, _, c => c
  | l + 1, o, c => pCi e n set k l (o + 1) (c + (@ite Int (pAl e n set k o 0) (Classical.propDecidable _) 1 0))
noncomputable def pCo (e : Nat → Int) (n set : Int) : Nat → Int → Int → Int
  | 0, _, c => c
  | l + 1, k, c => pCo e n set l (k + 1) (pCi e n set k (7 - k).toNat (k + 1) c)
theorem pCi_b (e : Nat → Int) (n set k : Int) : ∀ (l : Nat) (o c : Int), c ≤ pCi e n set k l o c ∧ pCi e n set k l o c ≤ c + l
  | 0, o, c => ⟨Int.le_refl _, by show c ≤ c + 0; omega⟩
  | l + 1, o, c => by
    classical
    have h := pCi_b e n set k l (o + 1) (c + (if pAl e n set k o 0 then 1 else 0))
    have e1 : pCi e n set k (l + 1) o c = pCi e n set k l (o + 1) (c + (if pAl e n set k o 0 then 1 else 0)) := rfl
    rw [e1]
    split at h <;> rename_i q
    · rw [if_pos q]; omega
    · rw [if_neg q]; omega
theorem pCo_b (e : Nat → Int) (n set : Int) : ∀ (l : Nat) (k c : Int), 0 ≤ k → c ≤ pCo e n set l k c ∧ pCo e n set l k c ≤ c + 8 * l
  | 0, k, c, _ => ⟨Int.le_refl _, by show c ≤ c + 8 * 0; omega⟩
  | l + 1, k, c, hk => by
    have h1 := pCi_b e n set k (7 - k).toNat (k + 1) c
    have h2 := pCo_b e n set l (k + 1) (pCi e n set k (7 - k).toNat (k + 1) c) (by omega)
    have e1 : pCo e n set (l + 1) k c = pCo e n set l (k + 1) (pCi e n set k (7 - k).toNat (k + 1) c) := rfl
    rw [e1]
    omega
/-- how many pairs are alike in all dishes of a set -/
noncomputable def pLk (e : Nat → Int) (n set : Int) : Int := pCo e n set 8 0 0
theorem pLk_b (e : Nat → Int) (n set : Int) : 0 ≤ pLk e n set ∧ pLk e n set ≤ 64 := by
  have h := pCo_b e n set 8 0 0 (by decide)
  unfold pLk
  omega
section G25
variable {W : ax_W} {r : Nat} {g : Nat → Nat → Int} {Q : Nat → Nat → (Nat → Nat → Int) → Prop}
theorem sp_cal_1 {n set k o : Int} (hn : g 3 5 = n) (n0 : 0 ≤ n) (n6 : n ≤ 6) (hk : 0 ≤ k ∧ k ≤ 7) (ho : 0 ≤ o ∧ o ≤ 7) (k1 : pAl (g 6) n set k o 0 → Q 1 (fI 1) g) (k2 : ¬ pAl (g 6) n set k o 0 → Q 1 (fI 0) g) : ∀ (l f : Nat), f ≤ 6 → (n - f).toNat = l → (pAl (g 6) n set k o f → pAl (g 6) n set k o 0) → fx W r 1 22 3 [26, fI set, fI k, fI o, fI (f : Int)] [] g Q
  | l, f, f6, hl, hf => by
    refine fx_rg (fun hg => ?_)
    refine fx_li 4 5 (by decide +kernel) rfl ?_
    refine fx_la 0 6 (v := 26) (by decide +kernel) rfl (by decide +kernel) ?_
    refine fx_gi 26 3 5 9 (by decide +kernel) ?_
    refine fx_ige 46 12 (by decide +kernel) (by unfold fR; omega) (by first | exact hg 3 5 (by decide) (by decide +kernel) (by decide +kernel) | (unfold fR; omega)) (fun h9 => ?_) (fun h9 => ?_)
    · refine fx_ci (1) 47 (by decide +kernel) ?_
      refine fx_retb (by decide +kernel) (by first | exact Or.inl rfl | exact Or.inr rfl | omega) ?_
      exact k1 (hf (fun d d1 d2 => by omega))
    · refine fx_li 1 13 (by decide +kernel) rfl ?_
      refine fx_li 4 15 (by decide +kernel) rfl ?_
      refine fx_c2 23 22 18 0 [] (f_q22 (by decide +kernel)) (by decide) (fI_n4 _) (fI_n4 _) rfl (by first | decide | omega) ?_
      refine sp_chas (fK1 ?_)
      have h01 := fbt_01 set (f : Int)
      refine fx_zeq 40 21 (by decide +kernel) (by unfold fR; omega) (fun h18 => ?_) (fun h18 => ?_)
      · refine fx_inc 4 43 (1) (by decide +kernel) rfl (Or.inr (fI_n4 _)) rfl ?_
        dsimp only [List.set]
        refine fx_go 3 (by decide +kernel) ?_
        match l, hl with
        | 0, hl => exfalso; omega
        | l + 1, hl => exact sp_cal_1 hn n0 n6 hk ho k1 k2 l (f + 1) (by omega) (by omega) (fun t => hf (fun d d1 d2 => by
            by_cases q : d = f
            · subst q
              first | exact Or.inl (by assumption) | exact Or.inr (by assumption)
            · exact t d (by omega) d2))
      · refine fx_la 0 22 (v := 26) (by decide +kernel) rfl (by decide +kernel) ?_
        refine fx_li 4 24 (by decide +kernel) rfl ?_
        refine fx_li 2 25 (by decide +kernel) rfl ?_
        refine fx_c3 24 21 28 0 [] (by decide +kernel) (by decide) (by decide) (fI_n4 _) (fI_n4 _) rfl (by first | decide | omega) ?_
        refine sp_ceatenAt ⟨by omega, by omega⟩ hk (fK1 ?_)
        have r1 := hgA hg 48 (c := 6) (j := ((f : Int) * 8 + k).toNat) (by decide +kernel) (by omega)
        unfold fR at r1
        refine fx_la 0 29 (v := 26) (by decide +kernel) rfl (by decide +kernel) ?_
        refine fx_li 4 31 (by decide +kernel) rfl ?_
        refine fx_li 3 32 (by decide +kernel) rfl ?_
        refine fx_c3 24 21 35 0 [] (by decide +kernel) (by decide) (by decide) (fI_n4 _) (fI_n4 _) rfl (by first | decide | omega) ?_
        refine sp_ceatenAt ⟨by omega, by omega⟩ ho (fK1 ?_)
        have r2 := hgA hg 48 (c := 6) (j := ((f : Int) * 8 + o).toNat) (by decide +kernel) (by omega)
        unfold fR at r2
        refine fx_ieq 40 38 (by decide +kernel) (by unfold fR; omega) (by unfold fR; omega) (fun h35 => ?_) (fun h35 => ?_)
        · refine fx_inc 4 43 (1) (by decide +kernel) rfl (Or.inr (fI_n4 _)) rfl ?_
          dsimp only [List.set]
          refine fx_go 3 (by decide +kernel) ?_
          match l, hl with
          | 0, hl => exfalso; omega
          | l + 1, hl => exact sp_cal_1 hn n0 n6 hk ho k1 k2 l (f + 1) (by omega) (by omega) (fun t => hf (fun d d1 d2 => by
              by_cases q : d = f
              · subst q
                first | exact Or.inl (by assumption) | exact Or.inr (by assumption)
              · exact t d (by omega) d2))
        · refine fx_ci (0) 39 (by decide +kernel) ?_
          refine fx_retb (by decide +kernel) (by first | exact Or.inl rfl | exact Or.inr rfl | omega) ?_
          exact k2 (fun t => by rcases t f (Nat.zero_le _) (by omega) with q | q <;> omega)
theorem sp_cal {n set k o : Int} (hn : g 3 5 = n) (n0 : 0 ≤ n) (n6 : n ≤ 6) (hk : 0 ≤ k ∧ k ≤ 7) (ho : 0 ≤ o ∧ o ≤ 7) (k1 : pAl (g 6) n set k o 0 → Q 1 (fI 1) g) (k2 : ¬ pAl (g 6) n set k o 0 → Q 1 (fI 0) g) : fx W r 1 22 0 [26, fI set, fI k, fI o, 7] [] g Q := by
  refine fx_ci (0) 1 (by decide +kernel) ?_
  refine fx_si 4 3 (by decide +kernel) (Or.inr (fI_n4 _)) rfl ?_
  dsimp only [List.set]
  exact sp_cal_1 hn n0 n6 hk ho k1 k2 _ 0 (by decide) rfl id
theorem sp_mal_1 {n set k o : Int} {e : Nat → Int} (he : ∀ j : Nat, j < 48 → (j : Int) < 8 * n → g 149 (68 + j) = e j) (hn : g 149 4 = n) (n0 : 0 ≤ n) (n6 : n ≤ 6) (hk : 0 ≤ k ∧ k ≤ 7) (ho : 0 ≤ o ∧ o ≤ 7) (k1 : pAl e n set k o 0 → Q 1 (fI 1) g) (k2 : ¬ pAl e n set k o 0 → Q 1 (fI 0) g) : ∀ (l f : Nat) (a : Int), f ≤ 6 → (n - f).toNat = l → ((a = 1 ∧ (pAl e n set k o f → pAl e n set k o 0)) ∨ (a = 0 ∧ ¬ pAl e n set k o 0)) → fx W r 1 349 6 [1186, fI set, fI k, fI o, fI a, fI (f : Int)] [] g Q
  | l, f, a, f6, hl, hf => by
    refine fx_rg (fun hg => ?_)
    refine fx_li 5 8 (by decide +kernel) rfl ?_
    refine fx_la 0 9 (v := 1186) (by decide +kernel) rfl (by decide +kernel) ?_
    refine fx_gp 1186 148 1 1194 12 (by decide +kernel) ?_
    refine fx_ci (4) 13 (by decide +kernel) ?_
    refine fx_al 1194 149 764 14 (by decide +kernel) rfl (by omega) (by omega) rfl ?_
    try simp only [fu_app, fcy_app, Nat.reduceEqDiff, and_true, and_false, false_and, true_and, if_true, if_false, ite_true, ite_false, reduceIte, Int.reduceToNat, fx_simp0]
    refine fx_ige 61 17 (by decide +kernel) (by unfold fR; omega) (by unfold fR; omega) (fun h14 => ?_) (fun h14 => ?_)
    · refine fx_li 4 63 (by decide +kernel) rfl ?_
      refine fx_retb (by decide +kernel) (by first | exact Or.inl rfl | exact Or.inr rfl | omega) ?_
      rcases hf with ⟨a1, hf⟩ | ⟨a0, hf⟩
      · rw [a1]
        exact k1 (hf (fun d d1 d2 => by omega))
      · rw [a0]
        exact k2 hf
    · refine fx_li 4 19 (by decide +kernel) rfl ?_
      refine fx_zeq 61 22 (by decide +kernel) (by unfold fR; omega) (fun h19 => ?_) (fun h19 => ?_)
      · refine fx_li 4 63 (by decide +kernel) rfl ?_
        refine fx_retb (by decide +kernel) (by first | exact Or.inl rfl | exact Or.inr rfl | omega) ?_
        rcases hf with ⟨a1, hf⟩ | ⟨a0, hf⟩
        · exfalso; omega
        · rw [a0]
          exact k2 hf
      · refine fx_li 1 23 (by decide +kernel) rfl ?_
        refine fx_li 5 25 (by decide +kernel) rfl ?_
        refine fx_c2 306 22 28 0 [] (f_q22 (by decide +kernel)) (by decide) (fI_n4 _) (fI_n4 _) rfl (by first | decide | omega) ?_
        refine sp_misOf (fK1 ?_)
        have h01 := fbt_01 set (f : Int)
        refine fx_zeq 48 31 (by decide +kernel) (by unfold fR; omega) (fun h28 => ?_) (fun h28 => ?_)
        · refine fx_ci (1) 49 (by decide +kernel) ?_
          refine fx_go 53 (by decide +kernel) ?_
          refine fx_si 4 55 (by decide +kernel) (Or.inr (fI_n4 _)) rfl ?_
          dsimp only [List.set]
          refine fx_inc 5 58 (1) (by decide +kernel) rfl (Or.inr (fI_n4 _)) rfl ?_
          dsimp only [List.set]
          refine fx_go 6 (by decide +kernel) ?_
          match l, hl with
          | 0, hl => exfalso; omega
          | l + 1, hl =>
            rcases hf with ⟨a1, hf⟩ | ⟨a0, hf⟩
            · by_cases q : fbt set (f : Int) = 0 ∨ e ((f : Int) * 8 + k).toNat = e ((f : Int) * 8 + o).toNat
              · first
                  | exact sp_mal_1 he hn n0 n6 hk ho k1 k2 l (f + 1) 1 (by omega) (by omega) (Or.inl ⟨rfl, fun t => hf (fun d d1 d2 => by
                      by_cases z : d = f
                      · subst z; exact q
                      · exact t d (by omega) d2)⟩)
                  | (exfalso; omega)
              · first
                  | exact sp_mal_1 he hn n0 n6 hk ho k1 k2 l (f + 1) 0 (by omega) (by omega) (Or.inr ⟨rfl, fun t => q (t f (Nat.zero_le _) (by omega))⟩)
                  | (exfalso; omega)
            · exfalso; omega
        · refine fx_la 0 32 (v := 1186) (by decide +kernel) rfl (by decide +kernel) ?_
          refine fx_li 5 34 (by decide +kernel) rfl ?_
          refine fx_li 2 35 (by decide +kernel) rfl ?_
          refine fx_c3 313 21 38 0 [] (by decide +kernel) (by decide) (by decide) (fI_n4 _) (fI_n4 _) rfl (by first | decide | omega) ?_
          refine sp_meatenOf ⟨by omega, by omega⟩ hk (fK1 ?_)
          have r1 := hgA hg 764 (c := 149) (j := (68 + 8 * (f : Int) + k).toNat) (by decide +kernel) (by omega)
          unfold fR at r1
          have q1 := he ((f : Int) * 8 + k).toNat (by omega) (by omega)
          rw [show 68 + ((f : Int) * 8 + k).toNat = (68 + 8 * (f : Int) + k).toNat by omega] at q1
          refine fx_la 0 39 (v := 1186) (by decide +kernel) rfl (by decide +kernel) ?_
          refine fx_li 5 41 (by decide +kernel) rfl ?_
          refine fx_li 3 42 (by decide +kernel) rfl ?_
          refine fx_c3 313 21 45 0 [] (by decide +kernel) (by decide) (by decide) (fI_n4 _) (fI_n4 _) rfl (by first | decide | omega) ?_
          refine sp_meatenOf ⟨by omega, by omega⟩ ho (fK1 ?_)
          have r2 := hgA hg 764 (c := 149) (j := (68 + 8 * (f : Int) + o).toNat) (by decide +kernel) (by omega)
          unfold fR at r2
          have q2 := he ((f : Int) * 8 + o).toNat (by omega) (by omega)
          rw [show 68 + ((f : Int) * 8 + o).toNat = (68 + 8 * (f : Int) + o).toNat by omega] at q2
          refine fx_ine 52 48 (by decide +kernel) (by unfold fR; omega) (by unfold fR; omega) (fun h45 => ?_) (fun h45 => ?_)
          · refine fx_ci (0) 53 (by decide +kernel) ?_
            refine fx_si 4 55 (by decide +kernel) (Or.inr (fI_n4 _)) rfl ?_
            dsimp only [List.set]
            refine fx_inc 5 58 (1) (by decide +kernel) rfl (Or.inr (fI_n4 _)) rfl ?_
            dsimp only [List.set]
            refine fx_go 6 (by decide +kernel) ?_
            match l, hl with
            | 0, hl => exfalso; omega
            | l + 1, hl =>
              rcases hf with ⟨a1, hf⟩ | ⟨a0, hf⟩
              · by_cases q : fbt set (f : Int) = 0 ∨ e ((f : Int) * 8 + k).toNat = e ((f : Int) * 8 + o).toNat
                · first
                    | exact sp_mal_1 he hn n0 n6 hk ho k1 k2 l (f + 1) 1 (by omega) (by omega) (Or.inl ⟨rfl, fun t => hf (fun d d1 d2 => by
                        by_cases z : d = f
                        · subst z; exact q
                        · exact t d (by omega) d2)⟩)
                    | (exfalso; omega)
                · first
                    | exact sp_mal_1 he hn n0 n6 hk ho k1 k2 l (f + 1) 0 (by omega) (by omega) (Or.inr ⟨rfl, fun t => q (t f (Nat.zero_le _) (by omega))⟩)
                    | (exfalso; omega)
              · exfalso; omega
          · refine fx_ci (1) 49 (by decide +kernel) ?_
            refine fx_go 53 (by decide +kernel) ?_
            refine fx_si 4 55 (by decide +kernel) (Or.inr (fI_n4 _)) rfl ?_
            dsimp only [List.set]
            refine fx_inc 5 58 (1) (by decide +kernel) rfl (Or.inr (fI_n4 _)) rfl ?_
            dsimp only [List.set]
            refine fx_go 6 (by decide +kernel) ?_
            match l, hl with
            | 0, hl => exfalso; omega
            | l + 1, hl =>
              rcases hf with ⟨a1, hf⟩ | ⟨a0, hf⟩
              · by_cases q : fbt set (f : Int) = 0 ∨ e ((f : Int) * 8 + k).toNat = e ((f : Int) * 8 + o).toNat
                · first
                    | exact sp_mal_1 he hn n0 n6 hk ho k1 k2 l (f + 1) 1 (by omega) (by omega) (Or.inl ⟨rfl, fun t => hf (fun d d1 d2 => by
                        by_cases z : d = f
                        · subst z; exact q
                        · exact t d (by omega) d2)⟩)
                    | (exfalso; omega)
                · first
                    | exact sp_mal_1 he hn n0 n6 hk ho k1 k2 l (f + 1) 0 (by omega) (by omega) (Or.inr ⟨rfl, fun t => q (t f (Nat.zero_le _) (by omega))⟩)
                    | (exfalso; omega)
              · exfalso; omega
theorem sp_mal {n set k o : Int} {e : Nat → Int} (he : ∀ j : Nat, j < 48 → (j : Int) < 8 * n → g 149 (68 + j) = e j) (hn : g 149 4 = n) (n0 : 0 ≤ n) (n6 : n ≤ 6) (hk : 0 ≤ k ∧ k ≤ 7) (ho : 0 ≤ o ∧ o ≤ 7) (k1 : pAl e n set k o 0 → Q 1 (fI 1) g) (k2 : ¬ pAl e n set k o 0 → Q 1 (fI 0) g) : fx W r 1 349 0 [1186, fI set, fI k, fI o, 7, 7] [] g Q := by
  refine fx_ci (1) 1 (by decide +kernel) ?_
  refine fx_si 4 3 (by decide +kernel) (Or.inr (fI_n4 _)) rfl ?_
  dsimp only [List.set]
  refine fx_ci (0) 4 (by decide +kernel) ?_
  refine fx_si 5 6 (by decide +kernel) (Or.inr (fI_n4 _)) rfl ?_
  dsimp only [List.set]
  exact sp_mal_1 he hn n0 n6 hk ho k1 k2 _ 0 1 (by decide) rfl (Or.inl ⟨rfl, id⟩)
theorem sp_cpa_1 {n set c0 : Int} (hn : g 3 5 = n) (n0 : 0 ≤ n) (n6 : n ≤ 6) {k : Int} (hk : 0 ≤ k ∧ k ≤ 7)
    (kq : ∀ (x4 : Nat), fx W r 2 21 4 [26, fI set, fI (pCi (g 6) n set k (7 - k).toNat (k + 1) c0), fI (k + 1), x4] [] g Q) : ∀ (l : Nat) (o c : Int), 0 ≤ o → o + l = 8 → 0 ≤ c → c ≤ 100 - l → pCi (g 6) n set k l o c = pCi (g 6) n set k (7 - k).toNat (k + 1) c0 → fx W r 2 21 15 [26, fI set, fI c, fI k, fI o] [] g Q
  | l, o, c, o0, hl, c0', c1, e => by
    refine fx_li 4 17 (by decide +kernel) rfl ?_
    refine fx_ci (8) 19 (by decide +kernel) ?_
    refine fx_ige 42 22 (by decide +kernel) (by unfold fR; omega) (by unfold fR; omega) (fun h19 => ?_) (fun h19 => ?_)
    · refine fx_inc 3 45 (1) (by decide +kernel) rfl (Or.inr (fI_n4 _)) rfl ?_
      dsimp only [List.set]
      refine fx_go 4 (by decide +kernel) ?_
      have e0 : l = 0 := by omega
      subst e0
      have e1 : pCi (g 6) n set k 0 o c = c := rfl
      rw [e1] at e
      rw [e]
      exact kq _
    · refine fx_la 0 23 (v := 26) (by decide +kernel) rfl (by decide +kernel) ?_
      refine fx_li 1 24 (by decide +kernel) rfl ?_
      refine fx_li 3 25 (by decide +kernel) rfl ?_
      refine fx_li 4 27 (by decide +kernel) rfl ?_
      refine fx_c4 22 21 30 1 [7] (by decide +kernel) (by decide) (by decide) (fI_n4 _) (fI_n4 _) (fI_n4 _) rfl (by first | decide | omega) ?_
      refine sp_cal hn n0 n6 hk ⟨by omega, by omega⟩ (fun t => fK1 ?_) (fun t => fK1 ?_)
      · refine fx_zeq 36 33 (by decide +kernel) (by unfold fR; omega) (fun hc => absurd hc (by decide)) (fun _ => ?_)
        refine fx_inc 2 36 (1) (by decide +kernel) rfl (Or.inr (fI_n4 _)) rfl ?_
        dsimp only [List.set]
        refine fx_inc 4 39 (1) (by decide +kernel) rfl (Or.inr (fI_n4 _)) rfl ?_
        dsimp only [List.set]
        refine fx_go 15 (by decide +kernel) ?_
        match l, hl, c1, e with
        | 0, hl, c1, e => exfalso; omega
        | l + 1, hl, c1, e =>
          have e1 : pCi (g 6) n set k (l + 1) o c = pCi (g 6) n set k l (o + 1) (c + 1) := by
            show pCi (g 6) n set k l (o + 1) (c + _) = _
            rw [if_pos t]
          exact sp_cpa_1 hn n0 n6 hk kq l (o + 1) (c + 1) (by omega) (by omega) (by omega) (by omega) (e1.symm.trans e)
      · refine fx_zeq 36 33 (by decide +kernel) (by unfold fR; omega) (fun _ => ?_) (fun hc => absurd hc (by decide))
        refine fx_inc 4 39 (1) (by decide +kernel) rfl (Or.inr (fI_n4 _)) rfl ?_
        dsimp only [List.set]
        refine fx_go 15 (by decide +kernel) ?_
        match l, hl, c1, e with
        | 0, hl, c1, e => exfalso; omega
        | l + 1, hl, c1, e =>
          have e1 : pCi (g 6) n set k (l + 1) o c = pCi (g 6) n set k l (o + 1) c := by
            show pCi (g 6) n set k l (o + 1) (c + _) = _
            rw [if_neg t, Int.add_zero]
          exact sp_cpa_1 hn n0 n6 hk kq l (o + 1) c (by omega) (by omega) (by omega) (by omega) (e1.symm.trans e)
theorem sp_cpa_2 {n set : Int} (hn : g 3 5 = n) (n0 : 0 ≤ n) (n6 : n ≤ 6) (kq : Q 1 (fI (pLk (g 6) n set)) g) : ∀ (l : Nat) (k c : Int) (x4 : Nat), 0 ≤ k → k + l = 8 → 0 ≤ c → c ≤ 8 * k → pCo (g 6) n set l k c = pLk (g 6) n set → fx W r 2 21 4 [26, fI set, fI c, fI k, x4] [] g Q
  | l, k, c, x4, k0, hl, c0, c1, e => by
    refine fx_li 3 5 (by decide +kernel) rfl ?_
    refine fx_ci (8) 7 (by decide +kernel) ?_
    refine fx_ige 48 10 (by decide +kernel) (by unfold fR; omega) (by unfold fR; omega) (fun h7 => ?_) (fun h7 => ?_)
    · refine fx_li 2 49 (by decide +kernel) rfl ?_
      refine fx_ret (by decide +kernel) ?_
      have e0 : l = 0 := by omega
      subst e0
      have e1 : pCo (g 6) n set 0 k c = c := rfl
      rw [← e, e1] at kq
      exact kq
    · refine fx_li 3 11 (by decide +kernel) rfl ?_
      refine fx_ci (1) 12 (by decide +kernel) ?_
      refine fx_add 13 (by decide +kernel) rfl ?_
      refine fx_si 4 15 (by decide +kernel) (Or.inr (fI_n4 _)) rfl ?_
      dsimp only [List.set]
      match l, hl, e with
      | 0, hl, e => exfalso; omega
      | l + 1, hl, e =>
        have hb := pCi_b (g 6) n set k (7 - k).toNat (k + 1) c
        refine sp_cpa_1 hn n0 n6 ⟨k0, by omega⟩ (c0 := c) (fun y4 => ?_) (7 - k).toNat (k + 1) c (by omega) (by omega) c0 (by omega) rfl
        exact sp_cpa_2 hn n0 n6 kq l (k + 1) _ y4 (by omega) (by omega) (by omega) (by omega) e
theorem sp_cpa {n set : Int} (hn : g 3 5 = n) (n0 : 0 ≤ n) (n6 : n ≤ 6) (kq : Q 1 (fI (pLk (g 6) n set)) g) : fx W r 2 21 0 [26, fI set, 7, 7, 7] [] g Q := by
  refine fx_ci (0) 1 (by decide +kernel) ?_
  refine fx_si 2 2 (by decide +kernel) (Or.inr (fI_n4 _)) rfl ?_
  dsimp only [List.set]
  refine fx_ci (0) 3 (by decide +kernel) ?_
  refine fx_si 3 4 (by decide +kernel) (Or.inr (fI_n4 _)) rfl ?_
  dsimp only [List.set]
  exact sp_cpa_2 hn n0 n6 kq 8 0 0 7 (by decide) (by decide) (by decide) (by decide) rfl
theorem sp_mlk_1 {n set c0 : Int} {ee : Nat → Int} (he : ∀ j : Nat, j < 48 → (j : Int) < 8 * n → g 149 (68 + j) = ee j) (hn : g 149 4 = n) (n0 : 0 ≤ n) (n6 : n ≤ 6) {k : Int} (hk : 0 ≤ k ∧ k ≤ 7)
    (kq : ∀ (x4 : Nat), fx W r 2 348 4 [1186, fI set, fI (pCi ee n set k (7 - k).toNat (k + 1) c0), fI (k + 1), x4] [] g Q) : ∀ (l : Nat) (o c : Int), 0 ≤ o → o + l = 8 → 0 ≤ c → c ≤ 100 - l → pCi ee n set k l o c = pCi ee n set k (7 - k).toNat (k + 1) c0 → fx W r 2 348 15 [1186, fI set, fI c, fI k, fI o] [] g Q
  | l, o, c, o0, hl, c0', c1, e => by
    refine fx_li 4 17 (by decide +kernel) rfl ?_
    refine fx_ci (8) 19 (by decide +kernel) ?_
    refine fx_ige 47 22 (by decide +kernel) (by unfold fR; omega) (by unfold fR; omega) (fun h19 => ?_) (fun h19 => ?_)
    · refine fx_inc 3 50 (1) (by decide +kernel) rfl (Or.inr (fI_n4 _)) rfl ?_
      dsimp only [List.set]
      refine fx_go 4 (by decide +kernel) ?_
      have e0 : l = 0 := by omega
      subst e0
      have e1 : pCi ee n set k 0 o c = c := rfl
      rw [e1] at e
      rw [e]
      exact kq _
    · refine fx_li 2 23 (by decide +kernel) rfl ?_
      refine fx_la 0 24 (v := 1186) (by decide +kernel) rfl (by decide +kernel) ?_
      refine fx_li 1 25 (by decide +kernel) rfl ?_
      refine fx_li 3 26 (by decide +kernel) rfl ?_
      refine fx_li 4 28 (by decide +kernel) rfl ?_
      refine fx_c4 349 21 31 1 [7, 7] (by decide +kernel) (by decide) (by decide) (fI_n4 _) (fI_n4 _) (fI_n4 _) rfl (by first | decide | omega) ?_
      refine sp_mal he hn n0 n6 hk ⟨by omega, by omega⟩ (fun t => fK1 ?_) (fun t => fK1 ?_)
      · refine fx_zeq 38 34 (by decide +kernel) (by unfold fR; omega) (fun hc => absurd hc (by decide)) (fun _ => ?_)
        refine fx_ci (1) 35 (by decide +kernel) ?_
        refine fx_go 39 (by decide +kernel) ?_
        refine fx_add 40 (by decide +kernel) rfl ?_
        refine fx_si 2 41 (by decide +kernel) (Or.inr (fI_n4 _)) rfl ?_
        dsimp only [List.set]
        refine fx_inc 4 44 (1) (by decide +kernel) rfl (Or.inr (fI_n4 _)) rfl ?_
        dsimp only [List.set]
        refine fx_go 15 (by decide +kernel) ?_
        match l, hl, c1, e with
        | 0, hl, c1, e => exfalso; omega
        | l + 1, hl, c1, e =>
          have e1 : pCi ee n set k (l + 1) o c = pCi ee n set k l (o + 1) (c + 1) := by
            show pCi ee n set k l (o + 1) (c + _) = _
            rw [if_pos t]
          exact sp_mlk_1 he hn n0 n6 hk kq l (o + 1) (c + 1) (by omega) (by omega) (by omega) (by omega) (e1.symm.trans e)
      · refine fx_zeq 38 34 (by decide +kernel) (by unfold fR; omega) (fun _ => ?_) (fun hc => absurd hc (by decide))
        refine fx_ci (0) 39 (by decide +kernel) ?_
        refine fx_add 40 (by decide +kernel) rfl ?_
        refine fx_si 2 41 (by decide +kernel) (Or.inr (fI_n4 _)) rfl ?_
        dsimp only [List.set]
        refine fx_inc 4 44 (1) (by decide +kernel) rfl (Or.inr (fI_n4 _)) rfl ?_
        dsimp only [List.set]
        refine fx_go 15 (by decide +kernel) ?_
        rw [Int.add_zero]
        match l, hl, c1, e with
        | 0, hl, c1, e => exfalso; omega
        | l + 1, hl, c1, e =>
          have e1 : pCi ee n set k (l + 1) o c = pCi ee n set k l (o + 1) c := by
            show pCi ee n set k l (o + 1) (c + _) = _
            rw [if_neg t, Int.add_zero]
          exact sp_mlk_1 he hn n0 n6 hk kq l (o + 1) c (by omega) (by omega) (by omega) (by omega) (e1.symm.trans e)
theorem sp_mlk_2 {n set : Int} {ee : Nat → Int} (he : ∀ j : Nat, j < 48 → (j : Int) < 8 * n → g 149 (68 + j) = ee j) (hn : g 149 4 = n) (n0 : 0 ≤ n) (n6 : n ≤ 6) (kq : Q 1 (fI (pLk ee n set)) g) : ∀ (l : Nat) (k c : Int) (x4 : Nat), 0 ≤ k → k + l = 8 → 0 ≤ c → c ≤ 8 * k → pCo ee n set l k c = pLk ee n set → fx W r 2 348 4 [1186, fI set, fI c, fI k, x4] [] g Q
  | l, k, c, x4, k0, hl, c0, c1, e => by
    refine fx_li 3 5 (by decide +kernel) rfl ?_
    refine fx_ci (8) 7 (by decide +kernel) ?_
    refine fx_ige 53 10 (by decide +kernel) (by unfold fR; omega) (by unfold fR; omega) (fun h7 => ?_) (fun h7 => ?_)
    · refine fx_li 2 54 (by decide +kernel) rfl ?_
      refine fx_ret (by decide +kernel) ?_
      have e0 : l = 0 := by omega
      subst e0
      have e1 : pCo ee n set 0 k c = c := rfl
      rw [← e, e1] at kq
      exact kq
    · refine fx_li 3 11 (by decide +kernel) rfl ?_
      refine fx_ci (1) 12 (by decide +kernel) ?_
      refine fx_add 13 (by decide +kernel) rfl ?_
      refine fx_si 4 15 (by decide +kernel) (Or.inr (fI_n4 _)) rfl ?_
      dsimp only [List.set]
      match l, hl, e with
      | 0, hl, e => exfalso; omega
      | l + 1, hl, e =>
        have hb := pCi_b ee n set k (7 - k).toNat (k + 1) c
        refine sp_mlk_1 he hn n0 n6 ⟨k0, by omega⟩ (c0 := c) (fun y4 => ?_) (7 - k).toNat (k + 1) c (by omega) (by omega) c0 (by omega) rfl
        exact sp_mlk_2 he hn n0 n6 kq l (k + 1) _ y4 (by omega) (by omega) (by omega) (by omega) e
theorem sp_mlk {n set : Int} {ee : Nat → Int} (he : ∀ j : Nat, j < 48 → (j : Int) < 8 * n → g 149 (68 + j) = ee j) (hn : g 149 4 = n) (n0 : 0 ≤ n) (n6 : n ≤ 6) (kq : Q 1 (fI (pLk ee n set)) g) : fx W r 2 348 0 [1186, fI set, 7, 7, 7] [] g Q := by
  refine fx_ci (0) 1 (by decide +kernel) ?_
  refine fx_si 2 2 (by decide +kernel) (Or.inr (fI_n4 _)) rfl ?_
  dsimp only [List.set]
  refine fx_ci (0) 3 (by decide +kernel) ?_
  refine fx_si 3 4 (by decide +kernel) (Or.inr (fI_n4 _)) rfl ?_
  dsimp only [List.set]
  exact sp_mlk_2 he hn n0 n6 kq 8 0 0 7 (by decide) (by decide) (by decide) (by decide) rfl
theorem sp_clike {a : Int} (hr : 1 ≤ r) (ha : fR a) (h0 : 0 ≤ g 3 5) (h1 : g 3 5 ≤ 6) (k1 : ¬ (0 ≤ a ∧ a < g 3 5) → Q 4 0 g) (k3 : 0 ≤ a ∧ a < g 3 5 → Q 1 (fI (pLk (g 6) (g 3 5) (fop 6 1 a))) g) : fx W r 3 200 0 [2, fI a] [] g Q := by
  refine fx_la 0 1 (v := 2) (by decide +kernel) rfl (by decide +kernel) ?_
  refine fx_li 1 2 (by decide +kernel) rfl ?_
  refine fx_c2 139 21 5 0 [] (by decide +kernel) (by decide) (by decide) (fI_n4 _) rfl (by first | decide | omega) ?_
  refine sp_needDish hr ha h0 h1 (fun t1 => fK0 ?_) (fun t1 => fK2 (k := 2) ?_)
  · refine fx_la 0 6 (v := 2) (by decide +kernel) rfl (by decide +kernel) ?_
    refine fx_gp 2 0 1 26 9 (by decide +kernel) ?_
    refine fx_ci (1) 10 (by decide +kernel) ?_
    refine fx_li 1 11 (by decide +kernel) rfl ?_
    refine fx_bin 6 12 (by decide +kernel) rfl (fun h => absurd h (by decide)) ?_
    refine fx_c2 21 21 15 2 [7, 7, 7] (by decide +kernel) (by decide) (by decide) (fI_n4 _) rfl (by first | decide | omega) ?_
    refine sp_cpa rfl h0 h1 (fK1 ?_)
    refine fx_ret (by decide +kernel) ?_
    exact k3 t1
  · exact k1 t1
theorem sp_mlike {a : Int} {e : Nat → Int} (he : ∀ j : Nat, j < 48 → (j : Int) < 8 * g 149 4 → g 149 (68 + j) = e j) (ha : fR a) (h0 : 0 ≤ g 149 4) (h1 : g 149 4 ≤ 6) (k1 : ¬ (0 ≤ a ∧ a < g 149 4) → Q 1 (fI 0) (fu g 148 0 1)) (k3 : 0 ≤ a ∧ a < g 149 4 → Q 1 (fI (pLk e (g 149 4) (fop 6 1 a))) (fu g 148 0 0)) : fx W r 3 350 0 [1186, fI a] [] g Q := by
  have ha2 := ha
  unfold fR at ha2
  refine fx_la 0 1 (v := 1186) (by decide +kernel) rfl (by decide +kernel) ?_
  refine fx_la 0 2 (v := 1186) (by decide +kernel) rfl (by decide +kernel) ?_
  refine fx_li 1 3 (by decide +kernel) rfl ?_
  refine fx_c2 311 21 6 1 [] (by decide +kernel) (by decide) (by decide) (fI_n4 _) rfl (by first | decide | omega) ?_
  refine sp_misDish ha h0 h1 (fun t1 => fK1 ?_) (fun t1 => fK1 ?_)
  · refine fx_zne 13 9 (by decide +kernel) (by unfold fR; omega) (fun _ => ?_) (fun hc => absurd hc (by decide))
    refine fx_ci (0) 14 (by decide +kernel) ?_
    refine fx_pi 1186 148 0 17 (by decide +kernel) (by unfold fR; omega) ?_
    refine fx_la 0 18 (v := 1186) (by decide +kernel) rfl (by decide +kernel) ?_
    refine fx_gi 1186 148 0 21 (by decide +kernel) ?_
    try simp only [fu_app, fcy_app, Nat.reduceEqDiff, and_true, and_false, false_and, true_and, if_true, if_false, ite_true, ite_false, reduceIte, Int.reduceToNat, fx_simp0]
    refine fx_zle 28 24 (by decide +kernel) (by unfold fR; omega) (fun h21 => ?_) (fun h21 => ?_)
    · refine fx_la 0 29 (v := 1186) (by decide +kernel) rfl (by decide +kernel) ?_
      refine fx_ci (1) 30 (by decide +kernel) ?_
      refine fx_li 1 31 (by decide +kernel) rfl ?_
      refine fx_bin 6 32 (by decide +kernel) rfl (fun h => absurd h (by decide)) ?_
      refine fx_c2 348 21 35 2 [7, 7, 7] (by decide +kernel) (by decide) (by decide) (fI_n4 _) rfl (by first | decide | omega) ?_
      refine sp_mlk he rfl h0 h1 (fK1 ?_)
      refine fx_ret (by decide +kernel) ?_
      exact k3 t1
    · refine fx_ci (0) 25 (by decide +kernel) ?_
      refine fx_go 35 (by decide +kernel) ?_
      refine fx_ret (by decide +kernel) ?_
      exfalso; omega
  · refine fx_zne 13 9 (by decide +kernel) (by unfold fR; omega) (fun hc => absurd hc (by decide)) (fun _ => ?_)
    refine fx_ci (1) 10 (by decide +kernel) ?_
    refine fx_go 14 (by decide +kernel) ?_
    refine fx_pi 1186 148 0 17 (by decide +kernel) (by unfold fR; omega) ?_
    refine fx_la 0 18 (v := 1186) (by decide +kernel) rfl (by decide +kernel) ?_
    refine fx_gi 1186 148 0 21 (by decide +kernel) ?_
    try simp only [fu_app, fcy_app, Nat.reduceEqDiff, and_true, and_false, false_and, true_and, if_true, if_false, ite_true, ite_false, reduceIte, Int.reduceToNat, fx_simp0]
    refine fx_zle 28 24 (by decide +kernel) (by unfold fR; omega) (fun h21 => ?_) (fun h21 => ?_)
    · exfalso; omega
    · refine fx_ci (0) 25 (by decide +kernel) ?_
      refine fx_go 35 (by decide +kernel) ?_
      refine fx_ret (by decide +kernel) ?_
      exact k1 t1
theorem sp_wlike {a : Int} (hl : 1 ≤ W.lim) (ha : fR a) (h0 : 0 ≤ g 3 5) (h1 : g 3 5 ≤ 6) (k1 : ¬ (0 ≤ a ∧ a < g 3 5) → Q 1 (fI 1) g) (k3 : 0 ≤ a ∧ a < g 3 5 → Q 1 (fI 0) (fu g 159 0 ((fJ (pLk (g 6) (g 3 5) (fop 6 1 a)) - 4 : Nat) : Int))) : fx W 1 4 199 0 [2, fI a, 1274, 7] [] g Q := by
  refine fx_la 2 1 (v := 1274) (by decide +kernel) rfl (by decide +kernel) ?_
  refine fx_ci (0) 2 (by decide +kernel) ?_
  refine fx_la 0 3 (v := 2) (by decide +kernel) rfl (by decide +kernel) ?_
  refine fx_li 1 4 (by decide +kernel) rfl ?_
  obtain ⟨e1, e2⟩ := f_qm_ok (W := W) (L := [2, fI a, 1274, 7]) (g := g) (S := [fI a, 2, fI 0, 1274]) (rest := [fI 0, 1274]) (mi := 199) (pc := 4) (mj := 200) (n := 2) (op := 21) (a := 2) (av' := [fI a]) (by decide +kernel) (by decide +kernel) (fun K => rfl) (fun t => absurd t (by decide))
  refine fx_callH (l := 0) (r := 0) (by omega) e1 e2 (by decide +kernel) (dj := 3) (by decide) (by decide +kernel) (pc' := 7) rfl (Lj := [2, fI a]) (f_xp (f_n4_2 (by decide)) (show 2 ≤ _ by decide +kernel)) ?_
  refine sp_clike (Nat.le_refl 1) ha h0 h1 (fun t => ?_) (fun t => ?_)
  · refine fKH2 2 13 3 (by decide +kernel) (Or.inr (f_n4p (v := 1274) rfl (by decide))) rfl ?_
    dsimp only [List.set]
    exact fx_ci 1 14 (by decide +kernel) (fx_ret (by decide +kernel) (k1 t))
  · refine fKH1 ?_
    refine fx_i2l 8 (by decide +kernel) rfl ?_
    refine fx_las 1274 159 1 9 (by decide +kernel) rfl (by omega) (by omega) (by decide +kernel) (fJ_ok _).1 (fJ_ok _).2 ?_
    exact fx_go 15 (by decide +kernel) (fx_ci 0 16 (by decide +kernel) (fx_ret (by decide +kernel) (k3 t)))
end G25
