/-! fx: the reference reads the law: what is joined by and, by or -/
theorem pSum_mn {T : Int → Int} {E : Int} : ∀ (n : Nat) (f : Int) (c : List Int) (j : Bool) (f1 : Int) (c1 : List Int), pSum T E n f c j = Sum.inr (f1, c1) → pOk T E f → pOk T E f1 ∧ f ≤ f1
  | 0, f, c, j, f1, c1, h, _ => by cases h
  | n + 1, f, c, j, f1, c1, h, hf => by
    obtain ⟨⟨f2, v⟩, h1, h2⟩ := bS_inr h
    obtain ⟨o1, o2, -, -⟩ := pPart_ok h1 hf
    have h2 : cif (pSg T E 43 f2) (pSum T E n (pSk T E (f2 + 1)) (c ++ (v :: cond j [2000] [])) true) (Sum.inr (f2, c ++ (v :: cond j [2000] []))) = Sum.inr (f1, c1) := h2
    by_cases s : pSg T E 43 f2
    · rw [cif_t s] at h2
      have h3 := pSk_ge T E (f2 + 1)
      obtain ⟨q1, q2⟩ := pSum_mn n _ _ _ _ _ h2 (pOk_s1 o1 s)
      exact ⟨q1, by omega⟩
    · rw [cif_f s] at h2
      cases h2
      exact ⟨o1, by omega⟩
theorem pCd_mn2 {T : Int → Int} {E : Int} : ∀ (n k : Nat) (d f : Int) (c : List Int) (j : Bool) (f1 : Int) (c1 : List Int), pCd T E n k d f c j = Sum.inr (f1, c1) → pOk T E f → pOk T E f1 ∧ f ≤ f1
  | 0, _, _, _, _, _, _, _, h, _ => by cases h
  | n + 1, 0, d, f, c, j, f1, c1, h, hf => by
    by_cases s0 : pSg T E 40 f
    · have g0 := pSk_ge T E (f + 1)
      by_cases d6 : 6 ≤ d
      · rw [pA_p6 s0 d6] at h; cases h
      · rw [pA_p s0 d6] at h
        obtain ⟨⟨f2, c2⟩, h1, h2⟩ := bS_inr h
        obtain ⟨o1, o2⟩ := pCd_mn2 n 2 _ _ _ _ _ _ h1 (pOk_s1 hf s0)
        have h2 : cif (pSg T E 41 f2) (Sum.inr (pSk T E (f2 + 1), c2)) (Sum.inl f2) = Sum.inr (f1, c1) := h2
        by_cases s1 : pSg T E 41 f2
        · rw [cif_t s1] at h2
          cases h2
          have g1 := pSk_ge T E (f2 + 1)
          exact ⟨pOk_s1 o1 s1, by omega⟩
        · rw [cif_f s1] at h2; cases h2
    · have g0 := pSk_ge T E (pWe T E f)
      have g1 := pWe_ge T E f
      by_cases w1 : pWd T E [110, 111, 116] f
      · by_cases d6 : 6 ≤ d
        · rw [pA_n6 s0 w1 d6] at h; cases h
        · rw [pA_n s0 w1 d6] at h
          obtain ⟨⟨f2, c2⟩, h1, h2⟩ := bS_inr h
          obtain ⟨o1, o2⟩ := pCd_mn2 n 0 _ _ _ _ _ _ h1 (pOk_we hf)
          cases h2
          exact ⟨o1, by show f ≤ f2; omega⟩
      · by_cases w2 : pWd T E [112, 114, 111, 109, 105, 115, 101, 100] f
        · rw [pA_pr s0 w1 w2] at h
          cases h
          exact ⟨pOk_we hf, by omega⟩
        · by_cases w3 : pWd T E [116, 104, 114, 101, 101] f
          · rw [pA_th s0 w1 w2 w3] at h
            cases h
            exact ⟨pOk_we hf, by omega⟩
          · rw [pA_s s0 w1 w2 w3] at h
            unfold pCmp at h
            obtain ⟨⟨f2, c2⟩, h1, h2⟩ := bS_inr h
            obtain ⟨o1, o2⟩ := pSum_mn _ _ _ _ _ _ h1 hf
            have h2 : cif (pSg T E 60 f2) (bS (pSum T E 401 (pSk T E (f2 + 1)) c2 false) (fun b => Sum.inr (b.1, b.2 ++ [2001]))) (cif (pSg T E 62 f2) (bS (pSum T E 401 (pSk T E (f2 + 1)) c2 false) (fun b => Sum.inr (b.1, b.2 ++ [2002]))) (Sum.inl f2)) = Sum.inr (f1, c1) := h2
            have g2 := pSk_ge T E (f2 + 1)
            have nxt : ∀ (z x : Int), pSg T E z f2 → bS (pSum T E 401 (pSk T E (f2 + 1)) c2 false) (fun b => Sum.inr (b.1, b.2 ++ [x])) = Sum.inr (f1, c1) → pOk T E f1 ∧ f ≤ f1 := fun z x s h2 => by
              obtain ⟨⟨f3, c3⟩, h3, h4⟩ := bS_inr h2
              obtain ⟨q1, q2⟩ := pSum_mn _ _ _ _ _ _ h3 (pOk_s1 o1 s)
              cases h4
              exact ⟨q1, by show f ≤ f3; omega⟩
            by_cases s1 : pSg T E 60 f2
            · rw [cif_t s1] at h2
              exact nxt _ _ s1 h2
            · rw [cif_f s1] at h2
              by_cases s2 : pSg T E 62 f2
              · rw [cif_t s2] at h2
                exact nxt _ _ s2 h2
              · rw [cif_f s2] at h2; cases h2
  | n + 1, 1, d, f, c, j, f1, c1, h, hf => by
    rw [pCd_1] at h
    obtain ⟨⟨f2, c2⟩, h1, h2⟩ := bS_inr h
    obtain ⟨o1, o2⟩ := pCd_mn2 n 0 _ _ _ _ _ _ h1 hf
    have h2 : rE T E d n f2 (c2 ++ cond j [2004] []) = Sum.inr (f1, c1) := h2
    unfold rE at h2
    have g0 := pSk_ge T E (pWe T E f2)
    have g1 := pWe_ge T E f2
    by_cases w : pWd T E [97, 110, 100] f2
    · rw [cif_t w] at h2
      obtain ⟨q1, q2⟩ := pCd_mn2 n 1 _ _ _ _ _ _ h2 (pOk_we o1)
      exact ⟨q1, by omega⟩
    · rw [cif_f w] at h2
      cases h2
      exact ⟨o1, o2⟩
  | n + 1, k + 2, d, f, c, j, f1, c1, h, hf => by
    obtain ⟨⟨f2, c2⟩, h1, h2⟩ := bS_inr h
    obtain ⟨o1, o2⟩ := pCd_mn2 n 1 _ _ _ _ _ _ h1 hf
    have h2 : rO T E d n f2 (c2 ++ cond j [2005] []) = Sum.inr (f1, c1) := h2
    unfold rO at h2
    have g0 := pSk_ge T E (pWe T E f2)
    have g1 := pWe_ge T E f2
    by_cases w : pWd T E [111, 114] f2
    · rw [cif_t w] at h2
      obtain ⟨q1, q2⟩ := pCd_mn2 n 2 _ _ _ _ _ _ h2 (pOk_we o1)
      exact ⟨q1, by omega⟩
    · rw [cif_f w] at h2
      cases h2
      exact ⟨o1, o2⟩
theorem pCd_mono {T : Int → Int} {E : Int} (n k : Nat) (d f : Int) (c : List Int) (j : Bool) (f1 : Int) (c1 : List Int) (h : pCd T E n k d f c j = Sum.inr (f1, c1)) (hf : pOk T E f) : f ≤ f1 := (pCd_mn2 n k d f c j f1 c1 h hf).2
section G5J
variable {T : Int → Int} {E : Int}
theorem sp_revery_1 {dp : Int} {dd e : Nat} (hA : AtR T E dp e) (he : e + 1 ≤ dd) (hdd : 8 ≤ dd) {W : ax_W} {r : Nat} {g0 : Nat → Nat → Int} {Q : Nat → Nat → (Nat → Nat → Int) → Prop} {st : List Int} {R : Int ⊕ (Int × List Int)} (hP : g0 148 15 = 0 ∨ g0 148 15 = 1) (hT : g0 148 16 = 0 ∨ g0 148 16 = 1) (k1 : ∀ f1 c1 b g', R = Sum.inr (f1, c1) → rwS T E g0 g' f1 dp → evS (fF g0) c1 = b :: st → (b = 0 ∨ b = 1) → Q 1 (fI b) g') (k2 : ∀ q b g', R = Sum.inl q → rwF g0 g' q (408 - dp) dp → (b = 0 ∨ b = 1) → Q 1 (fI b) g') : ∀ (n : Nat) (f v : Int) (c : List Int) (x2 : Nat) (g : Nat → Nat → Int), rwS T E g0 g f dp → evS (fF g0) c = v :: st → (v = 0 ∨ v = 1) → 3 * (E - f) ≤ n → rE T E dp n f c = R → fx W r dd 279 5 [1186, fI v, x2] [] g Q
  | n, f, v, c, x2, g, h, hv, hb, hn, eR => by
    have ok := h.ok
    have ok1 := ok.1
    have ok2 := ok.2.1
    have hE := h.1.2.2.1
    have hf := h.2.2.2.2.1
    refine fx_la 0 6 (v := 1186) (by decide +kernel) rfl (by decide +kernel) ?_
    refine fx_gi 1186 148 12 9 (by decide +kernel) ?_
    refine fx_cn (-1) 10 (by decide +kernel) (fun v9 c9 => ?_)
    refine fx_ine 44 13 (by decide +kernel) (by first | exact hg 148 12 (by decide) (by decide +kernel) (by decide +kernel) | (unfold fR; omega)) (by unfold fR; omega) (fun h10 => ?_) (fun h10 => ?_)
    · exfalso; omega
    · refine fx_la 0 14 (v := 1186) (by decide +kernel) rfl (by decide +kernel) ?_
      refine fx_lds 509 16 (by decide +kernel) ?_
      refine fx_c2 275 21 19 4 [7, 7] (by decide +kernel) (by decide) (by decide) (by decide) rfl (by first | decide | omega) ?_
      refine sp_rhas [97, 110, 100] (by decide +kernel) h (fun t g1 s1 => fK1 ?_) (fun t g1 s1 _ => fK1 ?_)
      · refine fx_zeq 44 22 (by decide +kernel) (by unfold fR; omega) (fun hc => absurd hc (by decide)) (fun _ => ?_)
        have g0' := pSk_ge T E (pWe T E f)
        have g1' : pWe T E f - f = 3 := t.1
        have g2' := pWe_le (T := T) (E := E) (i := f) ok2
        have eR1 : pCd T E n 1 dp (pSk T E (pWe T E f)) c true = R := (cif_t t).symm.trans eR
        match n, hn, eR1 with
        | 0, hn, eR1 => exfalso; omega
        | n + 1, hn, eR1 =>
          rw [pCd_1] at eR1
          refine fx_la 0 23 (v := 1186) (by decide +kernel) rfl (by decide +kernel) ?_
          refine fx_c1 280 21 26 e [7, 7, 7] (by decide +kernel) (by decide) rfl (by first | decide | omega) ?_
          refine hA _ _ _ g0 _ _ c n hP hT s1 (by omega) (fun f3 c3 b g3 p3 s3 v3 b3 => fK1 ?_) (fun q b g3 p3 s3 b3 => fK1 ?_)
          rw [p3, bS_r] at eR1
          have ev : evS (fF g0) (c3 ++ [2004]) = fop 3 v b :: st := by
            rw [evS_1, v3, hv]
            rfl
          rw [b01_and hb b3] at ev
          have f3f := pCd_mono n 0 dp _ c false f3 c3 p3 (pOk_we ok)
          · refine fx_si 2 27 (by decide +kernel) (Or.inr (fI_n4 _)) rfl ?_
            dsimp only [List.set]
            refine fx_li 1 28 (by decide +kernel) rfl ?_
            refine fx_zeq 39 31 (by decide +kernel) (by unfold fR; omega) (fun h28 => ?_) (fun h28 => ?_)
            · refine fx_ci (0) 40 (by decide +kernel) ?_
              refine fx_si 1 41 (by decide +kernel) (Or.inr (f_n4p (v := 1186) rfl (by decide))) rfl ?_
              dsimp only [List.set]
              refine fx_go 5 (by decide +kernel) ?_
              first
                | exact sp_revery_1 hA he hdd hP hT k1 k2 n f3 1 (c3 ++ [2004]) _ g3 s3 (ev.trans (by first | rw [if_neg (by omega)] | rw [if_pos (by omega)])) (Or.inr rfl) (by have := s3.ok.2.1; omega) eR1
                | exact sp_revery_1 hA he hdd hP hT k1 k2 n f3 0 (c3 ++ [2004]) _ g3 s3 (ev.trans (by first | rw [if_pos (by omega)] | rw [if_neg (by omega)])) (Or.inl rfl) (by have := s3.ok.2.1; omega) eR1
            · refine fx_li 2 32 (by decide +kernel) rfl ?_
              refine fx_zeq 39 35 (by decide +kernel) (by unfold fR; omega) (fun h32 => ?_) (fun h32 => ?_)
              · refine fx_ci (0) 40 (by decide +kernel) ?_
                refine fx_si 1 41 (by decide +kernel) (Or.inr (f_n4p (v := 1186) rfl (by decide))) rfl ?_
                dsimp only [List.set]
                refine fx_go 5 (by decide +kernel) ?_
                first
                  | exact sp_revery_1 hA he hdd hP hT k1 k2 n f3 1 (c3 ++ [2004]) _ g3 s3 (ev.trans (by first | rw [if_neg (by omega)] | rw [if_pos (by omega)])) (Or.inr rfl) (by have := s3.ok.2.1; omega) eR1
                  | exact sp_revery_1 hA he hdd hP hT k1 k2 n f3 0 (c3 ++ [2004]) _ g3 s3 (ev.trans (by first | rw [if_pos (by omega)] | rw [if_neg (by omega)])) (Or.inl rfl) (by have := s3.ok.2.1; omega) eR1
              · refine fx_ci (1) 36 (by decide +kernel) ?_
                refine fx_go 40 (by decide +kernel) ?_
                refine fx_si 1 41 (by decide +kernel) (Or.inr (f_n4p (v := 1186) rfl (by decide))) rfl ?_
                dsimp only [List.set]
                refine fx_go 5 (by decide +kernel) ?_
                first
                  | exact sp_revery_1 hA he hdd hP hT k1 k2 n f3 1 (c3 ++ [2004]) _ g3 s3 (ev.trans (by first | rw [if_neg (by omega)] | rw [if_pos (by omega)])) (Or.inr rfl) (by have := s3.ok.2.1; omega) eR1
                  | exact sp_revery_1 hA he hdd hP hT k1 k2 n f3 0 (c3 ++ [2004]) _ g3 s3 (ev.trans (by first | rw [if_pos (by omega)] | rw [if_neg (by omega)])) (Or.inl rfl) (by have := s3.ok.2.1; omega) eR1
          · refine fx_si 2 27 (by decide +kernel) (Or.inr (fI_n4 _)) rfl ?_
            dsimp only [List.set]
            refine fx_li 1 28 (by decide +kernel) rfl ?_
            refine fx_zeq 39 31 (by decide +kernel) (by unfold fR; omega) (fun h28 => ?_) (fun h28 => ?_)
            · refine fx_ci (0) 40 (by decide +kernel) ?_
              refine fx_si 1 41 (by decide +kernel) (Or.inr (f_n4p (v := 1186) rfl (by decide))) rfl ?_
              dsimp only [List.set]
              refine fx_go 5 (by decide +kernel) ?_
              have q1 := s3.1
              have q2 := s3.2.1
              refine fx_rg (fun hg => ?_)
              have eq : R = Sum.inl q := by rw [← eR1, p3, bS_l]
              refine fx_la 0 6 (v := 1186) (by decide +kernel) rfl (by decide +kernel) ?_
              refine fx_gi 1186 148 12 9 (by decide +kernel) ?_
              refine fx_cn (-1) 10 (by decide +kernel) (fun v9 c9 => ?_)
              refine fx_ine 44 13 (by decide +kernel) (by first | exact hg 148 12 (by decide) (by decide +kernel) (by decide +kernel) | (unfold fR; omega)) (by unfold fR; omega) (fun h10 => ?_) (fun h10 => ?_)
              · refine fx_li 1 45 (by decide +kernel) rfl ?_
                refine fx_retb (by decide +kernel) (by first | exact Or.inl rfl | exact Or.inr rfl | omega) ?_
                exact k2 q _ g3 eq s3 (by first | exact Or.inl rfl | exact Or.inr rfl)
              · exfalso; omega
            · refine fx_li 2 32 (by decide +kernel) rfl ?_
              refine fx_zeq 39 35 (by decide +kernel) (by unfold fR; omega) (fun h32 => ?_) (fun h32 => ?_)
              · refine fx_ci (0) 40 (by decide +kernel) ?_
                refine fx_si 1 41 (by decide +kernel) (Or.inr (f_n4p (v := 1186) rfl (by decide))) rfl ?_
                dsimp only [List.set]
                refine fx_go 5 (by decide +kernel) ?_
                have q1 := s3.1
                have q2 := s3.2.1
                refine fx_rg (fun hg => ?_)
                have eq : R = Sum.inl q := by rw [← eR1, p3, bS_l]
                refine fx_la 0 6 (v := 1186) (by decide +kernel) rfl (by decide +kernel) ?_
                refine fx_gi 1186 148 12 9 (by decide +kernel) ?_
                refine fx_cn (-1) 10 (by decide +kernel) (fun v9 c9 => ?_)
                refine fx_ine 44 13 (by decide +kernel) (by first | exact hg 148 12 (by decide) (by decide +kernel) (by decide +kernel) | (unfold fR; omega)) (by unfold fR; omega) (fun h10 => ?_) (fun h10 => ?_)
                · refine fx_li 1 45 (by decide +kernel) rfl ?_
                  refine fx_retb (by decide +kernel) (by first | exact Or.inl rfl | exact Or.inr rfl | omega) ?_
                  exact k2 q _ g3 eq s3 (by first | exact Or.inl rfl | exact Or.inr rfl)
                · exfalso; omega
              · refine fx_ci (1) 36 (by decide +kernel) ?_
                refine fx_go 40 (by decide +kernel) ?_
                refine fx_si 1 41 (by decide +kernel) (Or.inr (f_n4p (v := 1186) rfl (by decide))) rfl ?_
                dsimp only [List.set]
                refine fx_go 5 (by decide +kernel) ?_
                have q1 := s3.1
                have q2 := s3.2.1
                refine fx_rg (fun hg => ?_)
                have eq : R = Sum.inl q := by rw [← eR1, p3, bS_l]
                refine fx_la 0 6 (v := 1186) (by decide +kernel) rfl (by decide +kernel) ?_
                refine fx_gi 1186 148 12 9 (by decide +kernel) ?_
                refine fx_cn (-1) 10 (by decide +kernel) (fun v9 c9 => ?_)
                refine fx_ine 44 13 (by decide +kernel) (by first | exact hg 148 12 (by decide) (by decide +kernel) (by decide +kernel) | (unfold fR; omega)) (by unfold fR; omega) (fun h10 => ?_) (fun h10 => ?_)
                · refine fx_li 1 45 (by decide +kernel) rfl ?_
                  refine fx_retb (by decide +kernel) (by first | exact Or.inl rfl | exact Or.inr rfl | omega) ?_
                  exact k2 q _ g3 eq s3 (by first | exact Or.inl rfl | exact Or.inr rfl)
                · exfalso; omega
      · refine fx_zeq 44 22 (by decide +kernel) (by unfold fR; omega) (fun _ => ?_) (fun hc => absurd hc (by decide))
        refine fx_li 1 45 (by decide +kernel) rfl ?_
        refine fx_retb (by decide +kernel) (by first | exact Or.inl rfl | exact Or.inr rfl | omega) ?_
        refine k1 f c v g1 ?_ s1 hv hb
        rw [← eR]
        exact cif_f t
theorem sp_revery {dp : Int} {dd e : Nat} (hA : AtR T E dp e) (he : e + 1 ≤ dd) (hdd : 8 ≤ dd) : EvR T E dp dd := fun W r g g0 Q f c n hP hT h hn k1 k2 => by
  have ok := h.ok
  match n, hn, k1, k2 with
  | 0, hn, k1, k2 => exfalso; have := ok.2.1; omega
  | n + 1, hn, k1, k2 =>
    show fx W r dd 279 0 [1186, 7, 7] [] g Q
    refine fx_la 0 1 (v := 1186) (by decide +kernel) rfl (by decide +kernel) ?_
    refine fx_c1 280 21 4 e [7, 7, 7] (by decide +kernel) (by decide) rfl (by first | decide | omega) ?_
    refine hA _ _ _ g0 _ _ c n hP hT h (by omega) (fun f3 c3 b g3 p3 s3 v3 b3 => fK1 ?_) (fun q b g3 p3 s3 b3 => fK1 ?_)
    have f3f : f ≤ f3 := by
      have o := pCd_mono n 0 dp _ c false f3 c3 p3 ok
      omega
    · refine fx_si 1 5 (by decide +kernel) (Or.inr (f_n4p (v := 1186) rfl (by decide))) rfl ?_
      dsimp only [List.set]
      refine sp_revery_1 hA he hdd hP hT (R := pCd T E (n + 1) 1 dp f c false) k1 k2 n f3 b c3 _ g3 s3 v3 b3 (by omega) ?_
      rw [pCd_1, p3, bS_r]
      show _ = rE T E dp n f3 (c3 ++ [])
      rw [List.append_nil]
    · refine fx_si 1 5 (by decide +kernel) (Or.inr (f_n4p (v := 1186) rfl (by decide))) rfl ?_
      dsimp only [List.set]
      have q1 := s3.1
      have q2 := s3.2.1
      refine fx_rg (fun hg => ?_)
      refine fx_la 0 6 (v := 1186) (by decide +kernel) rfl (by decide +kernel) ?_
      refine fx_gi 1186 148 12 9 (by decide +kernel) ?_
      refine fx_cn (-1) 10 (by decide +kernel) (fun v9 c9 => ?_)
      refine fx_ine 44 13 (by decide +kernel) (by first | exact hg 148 12 (by decide) (by decide +kernel) (by decide +kernel) | (unfold fR; omega)) (by unfold fR; omega) (fun h10 => ?_) (fun h10 => ?_)
      · refine fx_li 1 45 (by decide +kernel) rfl ?_
        refine fx_retb (by decide +kernel) (by first | exact Or.inl rfl | exact Or.inr rfl | omega) ?_
        exact k2 q _ g3 (by rw [pCd_1, p3, bS_l]) s3 b3
      · exfalso; omega
theorem sp_rsome_1 {dp : Int} {dd e : Nat} (hA : EvR T E dp e) (he : e + 1 ≤ dd) (hdd : 8 ≤ dd) {W : ax_W} {r : Nat} {g0 : Nat → Nat → Int} {Q : Nat → Nat → (Nat → Nat → Int) → Prop} {st : List Int} {R : Int ⊕ (Int × List Int)} (hP : g0 148 15 = 0 ∨ g0 148 15 = 1) (hT : g0 148 16 = 0 ∨ g0 148 16 = 1) (k1 : ∀ f1 c1 b g', R = Sum.inr (f1, c1) → rwS T E g0 g' f1 dp → evS (fF g0) c1 = b :: st → (b = 0 ∨ b = 1) → Q 1 (fI b) g') (k2 : ∀ q b g', R = Sum.inl q → rwF g0 g' q (408 - dp) dp → (b = 0 ∨ b = 1) → Q 1 (fI b) g') : ∀ (n : Nat) (f v : Int) (c : List Int) (x2 : Nat) (g : Nat → Nat → Int), rwS T E g0 g f dp → evS (fF g0) c = v :: st → (v = 0 ∨ v = 1) → 3 * (E - f) ≤ n → rO T E dp n f c = R → fx W r dd 278 5 [1186, fI v, x2] [] g Q
  | n, f, v, c, x2, g, h, hv, hb, hn, eR => by
    have ok := h.ok
    have ok1 := ok.1
    have ok2 := ok.2.1
    have hE := h.1.2.2.1
    have hf := h.2.2.2.2.1
    refine fx_la 0 6 (v := 1186) (by decide +kernel) rfl (by decide +kernel) ?_
    refine fx_gi 1186 148 12 9 (by decide +kernel) ?_
    refine fx_cn (-1) 10 (by decide +kernel) (fun v9 c9 => ?_)
    refine fx_ine 44 13 (by decide +kernel) (by first | exact hg 148 12 (by decide) (by decide +kernel) (by decide +kernel) | (unfold fR; omega)) (by unfold fR; omega) (fun h10 => ?_) (fun h10 => ?_)
    · exfalso; omega
    · refine fx_la 0 14 (v := 1186) (by decide +kernel) rfl (by decide +kernel) ?_
      refine fx_lds 517 16 (by decide +kernel) ?_
      refine fx_c2 275 21 19 4 [7, 7] (by decide +kernel) (by decide) (by decide) (by decide) rfl (by first | decide | omega) ?_
      refine sp_rhas [111, 114] (by decide +kernel) h (fun t g1 s1 => fK1 ?_) (fun t g1 s1 _ => fK1 ?_)
      · refine fx_zeq 44 22 (by decide +kernel) (by unfold fR; omega) (fun hc => absurd hc (by decide)) (fun _ => ?_)
        have g0' := pSk_ge T E (pWe T E f)
        have g1' : pWe T E f - f = 2 := t.1
        have g2' := pWe_le (T := T) (E := E) (i := f) ok2
        have eR1 : pCd T E n 2 dp (pSk T E (pWe T E f)) c true = R := (cif_t t).symm.trans eR
        match n, hn, eR1 with
        | 0, hn, eR1 => exfalso; omega
        | n + 1, hn, eR1 =>
          rw [pCd_2] at eR1
          refine fx_la 0 23 (v := 1186) (by decide +kernel) rfl (by decide +kernel) ?_
          refine fx_c1 279 21 26 e [7, 7] (by decide +kernel) (by decide) rfl (by first | decide | omega) ?_
          refine hA _ _ _ g0 _ _ c n hP hT s1 (by omega) (fun f3 c3 b g3 p3 s3 v3 b3 => fK1 ?_) (fun q b g3 p3 s3 b3 => fK1 ?_)
          rw [p3, bS_r] at eR1
          have ev : evS (fF g0) (c3 ++ [2005]) = fop 4 v b :: st := by
            rw [evS_1, v3, hv]
            rfl
          rw [b01_or hb b3] at ev
          have f3f := pCd_mono n 1 dp _ c false f3 c3 p3 (pOk_we ok)
          · refine fx_si 2 27 (by decide +kernel) (Or.inr (fI_n4 _)) rfl ?_
            dsimp only [List.set]
            refine fx_li 1 28 (by decide +kernel) rfl ?_
            refine fx_zne 35 31 (by decide +kernel) (by unfold fR; omega) (fun h28 => ?_) (fun h28 => ?_)
            · refine fx_ci (1) 36 (by decide +kernel) ?_
              refine fx_go 40 (by decide +kernel) ?_
              refine fx_si 1 41 (by decide +kernel) (Or.inr (f_n4p (v := 1186) rfl (by decide))) rfl ?_
              dsimp only [List.set]
              refine fx_go 5 (by decide +kernel) ?_
              first
                | exact sp_rsome_1 hA he hdd hP hT k1 k2 n f3 1 (c3 ++ [2005]) _ g3 s3 (ev.trans (by first | rw [if_neg (by omega)] | rw [if_pos (by omega)])) (Or.inr rfl) (by have := s3.ok.2.1; omega) eR1
                | exact sp_rsome_1 hA he hdd hP hT k1 k2 n f3 0 (c3 ++ [2005]) _ g3 s3 (ev.trans (by first | rw [if_pos (by omega)] | rw [if_neg (by omega)])) (Or.inl rfl) (by have := s3.ok.2.1; omega) eR1
            · refine fx_li 2 32 (by decide +kernel) rfl ?_
              refine fx_zeq 39 35 (by decide +kernel) (by unfold fR; omega) (fun h32 => ?_) (fun h32 => ?_)
              · refine fx_ci (0) 40 (by decide +kernel) ?_
                refine fx_si 1 41 (by decide +kernel) (Or.inr (f_n4p (v := 1186) rfl (by decide))) rfl ?_
                dsimp only [List.set]
                refine fx_go 5 (by decide +kernel) ?_
                first
                  | exact sp_rsome_1 hA he hdd hP hT k1 k2 n f3 1 (c3 ++ [2005]) _ g3 s3 (ev.trans (by first | rw [if_neg (by omega)] | rw [if_pos (by omega)])) (Or.inr rfl) (by have := s3.ok.2.1; omega) eR1
                  | exact sp_rsome_1 hA he hdd hP hT k1 k2 n f3 0 (c3 ++ [2005]) _ g3 s3 (ev.trans (by first | rw [if_pos (by omega)] | rw [if_neg (by omega)])) (Or.inl rfl) (by have := s3.ok.2.1; omega) eR1
              · refine fx_ci (1) 36 (by decide +kernel) ?_
                refine fx_go 40 (by decide +kernel) ?_
                refine fx_si 1 41 (by decide +kernel) (Or.inr (f_n4p (v := 1186) rfl (by decide))) rfl ?_
                dsimp only [List.set]
                refine fx_go 5 (by decide +kernel) ?_
                first
                  | exact sp_rsome_1 hA he hdd hP hT k1 k2 n f3 1 (c3 ++ [2005]) _ g3 s3 (ev.trans (by first | rw [if_neg (by omega)] | rw [if_pos (by omega)])) (Or.inr rfl) (by have := s3.ok.2.1; omega) eR1
                  | exact sp_rsome_1 hA he hdd hP hT k1 k2 n f3 0 (c3 ++ [2005]) _ g3 s3 (ev.trans (by first | rw [if_pos (by omega)] | rw [if_neg (by omega)])) (Or.inl rfl) (by have := s3.ok.2.1; omega) eR1
          · refine fx_si 2 27 (by decide +kernel) (Or.inr (fI_n4 _)) rfl ?_
            dsimp only [List.set]
            refine fx_li 1 28 (by decide +kernel) rfl ?_
            refine fx_zne 35 31 (by decide +kernel) (by unfold fR; omega) (fun h28 => ?_) (fun h28 => ?_)
            · refine fx_ci (1) 36 (by decide +kernel) ?_
              refine fx_go 40 (by decide +kernel) ?_
              refine fx_si 1 41 (by decide +kernel) (Or.inr (f_n4p (v := 1186) rfl (by decide))) rfl ?_
              dsimp only [List.set]
              refine fx_go 5 (by decide +kernel) ?_
              have q1 := s3.1
              have q2 := s3.2.1
              refine fx_rg (fun hg => ?_)
              have eq : R = Sum.inl q := by rw [← eR1, p3, bS_l]
              refine fx_la 0 6 (v := 1186) (by decide +kernel) rfl (by decide +kernel) ?_
              refine fx_gi 1186 148 12 9 (by decide +kernel) ?_
              refine fx_cn (-1) 10 (by decide +kernel) (fun v9 c9 => ?_)
              refine fx_ine 44 13 (by decide +kernel) (by first | exact hg 148 12 (by decide) (by decide +kernel) (by decide +kernel) | (unfold fR; omega)) (by unfold fR; omega) (fun h10 => ?_) (fun h10 => ?_)
              · refine fx_li 1 45 (by decide +kernel) rfl ?_
                refine fx_retb (by decide +kernel) (by first | exact Or.inl rfl | exact Or.inr rfl | omega) ?_
                exact k2 q _ g3 eq s3 (by first | exact Or.inl rfl | exact Or.inr rfl)
              · exfalso; omega
            · refine fx_li 2 32 (by decide +kernel) rfl ?_
              refine fx_zeq 39 35 (by decide +kernel) (by unfold fR; omega) (fun h32 => ?_) (fun h32 => ?_)
              · refine fx_ci (0) 40 (by decide +kernel) ?_
                refine fx_si 1 41 (by decide +kernel) (Or.inr (f_n4p (v := 1186) rfl (by decide))) rfl ?_
                dsimp only [List.set]
                refine fx_go 5 (by decide +kernel) ?_
                have q1 := s3.1
                have q2 := s3.2.1
                refine fx_rg (fun hg => ?_)
                have eq : R = Sum.inl q := by rw [← eR1, p3, bS_l]
                refine fx_la 0 6 (v := 1186) (by decide +kernel) rfl (by decide +kernel) ?_
                refine fx_gi 1186 148 12 9 (by decide +kernel) ?_
                refine fx_cn (-1) 10 (by decide +kernel) (fun v9 c9 => ?_)
                refine fx_ine 44 13 (by decide +kernel) (by first | exact hg 148 12 (by decide) (by decide +kernel) (by decide +kernel) | (unfold fR; omega)) (by unfold fR; omega) (fun h10 => ?_) (fun h10 => ?_)
                · refine fx_li 1 45 (by decide +kernel) rfl ?_
                  refine fx_retb (by decide +kernel) (by first | exact Or.inl rfl | exact Or.inr rfl | omega) ?_
                  exact k2 q _ g3 eq s3 (by first | exact Or.inl rfl | exact Or.inr rfl)
                · exfalso; omega
              · refine fx_ci (1) 36 (by decide +kernel) ?_
                refine fx_go 40 (by decide +kernel) ?_
                refine fx_si 1 41 (by decide +kernel) (Or.inr (f_n4p (v := 1186) rfl (by decide))) rfl ?_
                dsimp only [List.set]
                refine fx_go 5 (by decide +kernel) ?_
                have q1 := s3.1
                have q2 := s3.2.1
                refine fx_rg (fun hg => ?_)
                have eq : R = Sum.inl q := by rw [← eR1, p3, bS_l]
                refine fx_la 0 6 (v := 1186) (by decide +kernel) rfl (by decide +kernel) ?_
                refine fx_gi 1186 148 12 9 (by decide +kernel) ?_
                refine fx_cn (-1) 10 (by decide +kernel) (fun v9 c9 => ?_)
                refine fx_ine 44 13 (by decide +kernel) (by first | exact hg 148 12 (by decide) (by decide +kernel) (by decide +kernel) | (unfold fR; omega)) (by unfold fR; omega) (fun h10 => ?_) (fun h10 => ?_)
                · refine fx_li 1 45 (by decide +kernel) rfl ?_
                  refine fx_retb (by decide +kernel) (by first | exact Or.inl rfl | exact Or.inr rfl | omega) ?_
                  exact k2 q _ g3 eq s3 (by first | exact Or.inl rfl | exact Or.inr rfl)
                · exfalso; omega
      · refine fx_zeq 44 22 (by decide +kernel) (by unfold fR; omega) (fun _ => ?_) (fun hc => absurd hc (by decide))
        refine fx_li 1 45 (by decide +kernel) rfl ?_
        refine fx_retb (by decide +kernel) (by first | exact Or.inl rfl | exact Or.inr rfl | omega) ?_
        refine k1 f c v g1 ?_ s1 hv hb
        rw [← eR]
        exact cif_f t
theorem sp_rsome {dp : Int} {dd e : Nat} (hA : EvR T E dp e) (he : e + 1 ≤ dd) (hdd : 8 ≤ dd) : SoR T E dp dd := fun W r g g0 Q f c n hP hT h hn k1 k2 => by
  have ok := h.ok
  match n, hn, k1, k2 with
  | 0, hn, k1, k2 => exfalso; have := ok.2.1; omega
  | n + 1, hn, k1, k2 =>
    show fx W r dd 278 0 [1186, 7, 7] [] g Q
    refine fx_la 0 1 (v := 1186) (by decide +kernel) rfl (by decide +kernel) ?_
    refine fx_c1 279 21 4 e [7, 7] (by decide +kernel) (by decide) rfl (by first | decide | omega) ?_
    refine hA _ _ _ g0 _ _ c n hP hT h (by omega) (fun f3 c3 b g3 p3 s3 v3 b3 => fK1 ?_) (fun q b g3 p3 s3 b3 => fK1 ?_)
    have f3f : f ≤ f3 := by
      have o := pCd_mono n 1 dp _ c false f3 c3 p3 ok
      omega
    · refine fx_si 1 5 (by decide +kernel) (Or.inr (f_n4p (v := 1186) rfl (by decide))) rfl ?_
      dsimp only [List.set]
      refine sp_rsome_1 hA he hdd hP hT (R := pCd T E (n + 1) 2 dp f c false) k1 k2 n f3 b c3 _ g3 s3 v3 b3 (by omega) ?_
      rw [pCd_2, p3, bS_r]
      show _ = rO T E dp n f3 (c3 ++ [])
      rw [List.append_nil]
    · refine fx_si 1 5 (by decide +kernel) (Or.inr (f_n4p (v := 1186) rfl (by decide))) rfl ?_
      dsimp only [List.set]
      have q1 := s3.1
      have q2 := s3.2.1
      refine fx_rg (fun hg => ?_)
      refine fx_la 0 6 (v := 1186) (by decide +kernel) rfl (by decide +kernel) ?_
      refine fx_gi 1186 148 12 9 (by decide +kernel) ?_
      refine fx_cn (-1) 10 (by decide +kernel) (fun v9 c9 => ?_)
      refine fx_ine 44 13 (by decide +kernel) (by first | exact hg 148 12 (by decide) (by decide +kernel) (by decide +kernel) | (unfold fR; omega)) (by unfold fR; omega) (fun h10 => ?_) (fun h10 => ?_)
      · refine fx_li 1 45 (by decide +kernel) rfl ?_
        refine fx_retb (by decide +kernel) (by first | exact Or.inl rfl | exact Or.inr rfl | omega) ?_
        exact k2 q _ g3 (by rw [pCd_2, p3, bS_l]) s3 b3
      · exfalso; omega
theorem sp_rAll : ∀ k : Nat, k ≤ 6 → AtR T E (6 - k) (12 + 3 * k) ∧ SoR T E (6 - k) (14 + 3 * k)
  | 0, _ => by
    have a : AtR T E (6 - ((0 : Nat) : Int)) (12 + 3 * 0) := sp_ratom (e := 11) (by decide) (by decide) (fun t => absurd t (by decide)) (fun t => absurd t (by decide)) (by decide) (by decide)
    have v : EvR T E (6 - ((0 : Nat) : Int)) 13 := sp_revery a (by decide) (by decide)
    exact ⟨a, sp_rsome v (by decide) (by decide)⟩
  | k + 1, hk => by
    obtain ⟨a, c⟩ := sp_rAll k (by omega)
    have e : 6 - ((k + 1 : Nat) : Int) + 1 = 6 - (k : Int) := by omega
    have a' : AtR T E (6 - ((k + 1 : Nat) : Int)) (12 + 3 * (k + 1)) := sp_ratom (e := 14 + 3 * k) (by omega) (by omega) (fun _ => by rw [e]; exact c) (fun _ => by rw [e]; exact a.up (by omega)) (by omega) (by omega)
    have v : EvR T E (6 - ((k + 1 : Nat) : Int)) (13 + 3 * (k + 1)) := sp_revery a' (by omega) (by omega)
    exact ⟨a', sp_rsome v (by omega) (by omega)⟩
theorem sp_rS0 : SoR T E 0 32 := (sp_rAll (T := T) (E := E) 6 (Nat.le_refl _)).2
end G5J
