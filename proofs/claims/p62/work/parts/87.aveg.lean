/-! ax: brides is right -/
section AXB8
variable {W : ax_W} {ρ : List Nat}
theorem ax_b8ok_ok : ∀ {os : List ax_O}, ax_b8ok os = true → ∀ o ∈ os, o.1 = 1 ∧ o.2.2.2.2.2.2 = 0 ∧ ax_in o.2.2.2.2.1 o.2.2.2.2.2.1 o.2.1 0 4294967295 = true ∧ ∃ u, ax_mg o.2.2.1 148 64 = some u ∧ ax_in o.2.2.2.2.1 o.2.2.2.2.2.1 u 2147483648 2147483648 = true
  | [], _, o, ho => by cases ho
  | q :: os, h, o, ho => by
    have h : sx_and (sx_and (sx_and (Nat.beq q.1 1) (Nat.beq q.2.2.2.2.2.2 0)) (sx_and (ax_in q.2.2.2.2.1 q.2.2.2.2.2.1 q.2.1 0 4294967295) (Option.rec false (fun u => ax_in q.2.2.2.2.1 q.2.2.2.2.2.1 u 2147483648 2147483648) (ax_mg q.2.2.1 148 64)))) (ax_b8ok os) = true := h
    obtain ⟨h1, h2⟩ := sx_and_ok h
    rcases List.mem_cons.mp ho with rfl | ho
    · obtain ⟨h1, h3⟩ := sx_and_ok h1
      obtain ⟨h1, h4⟩ := sx_and_ok h1
      obtain ⟨h3, h5⟩ := sx_and_ok h3
      refine ⟨sx_beq h1, sx_beq h4, h3, ?_⟩
      cases hm : ax_mg o.2.2.1 148 64 with
      | none => rw [hm] at h5; cases h5
      | some u => rw [hm] at h5; exact ⟨u, rfl, h5⟩
    · exact ax_b8ok_ok h2 o ho
theorem ax_b815_ok (hG : ax_Gk W ax_g815) (hV : ax_Gv W.N W.sy ax_g815) (wk : ax_Wk W) : ax_Ok W ax_b815 := by
  intro d mi cd lst fl pc L S M F Y n th outs h D ρ cL cS hh cs ss Post dd X HL HS Pq Hq
  unfold ax_b815 at h
  obtain ⟨c, h1⟩ := ax_if0 h
  obtain ⟨a1, c⟩ := sx_and_ok c
  obtain ⟨a1, a2⟩ := sx_and_ok a1
  obtain ⟨a3, c⟩ := sx_and_ok c
  obtain ⟨a3, a4⟩ := sx_and_ok a3
  obtain ⟨a4, a5⟩ := sx_and_ok a4
  obtain ⟨c1, c⟩ := sx_and_ok c
  obtain ⟨c2, c⟩ := sx_and_ok c
  obtain ⟨c3, c4⟩ := sx_and_ok c
  have b2 := ax_bee_ok c1
  have b1 := sx_beq c2
  obtain ⟨b3, b4⟩ := of_decide_eq_true c3
  obtain ⟨b5, b6, b7⟩ := of_decide_eq_true c4
  have e1 := sx_beq a1
  have e2 := sx_beq a2
  have e3 := sx_beq a3
  have e4 := sx_beq a4
  have e5 := sx_beq a5
  subst e1 e2 e3 e4 e5 b1 b2 b3 b4 b5 b6 b7
  cases h1
  have v1 : ax_V ρ 4503599627370537 (sx_ln cS 1) := HS.ln 1
  obtain ⟨P, jP, eP⟩ := v1.toInt (by decide)
  obtain ⟨r, r1, r2⟩ := jP.t1 (by decide)
  have ok5 : ax_k 4503599627370537 = 5 := by decide
  have oo5 : ax_o 4503599627370537 = 8589934592 := by decide
  rw [ok5] at r1
  rw [oo5] at r2
  obtain ⟨e, he, hE⟩ := X.yk.at r1
  have he' : e = (2147483649, 2147483903, 0, 0, 0, 0) := (Option.some.inj he).symm
  subst he'
  have lo : 2147483649 ≤ r := hE.1.1
  have hi : r ≤ 2147483903 := hE.1.2
  have piece : ∀ {f a b : Nat}, ax_b8 f a b = true → a ≤ r → r ≤ b → cx_G W D 370 (sx_mt 370).1 71 cL cS hh cs ss Post := by
    intro f a b hq ha hb
    unfold ax_b8 at hq
    generalize hr : ax_run ax_g815 f 3 370 (sx_mt 370).1 ax_be false 71 ax_bL ax_bS ax_bM ax_bF (ax_bY a b) 6 0 = res at hq
    cases res with
    | none => cases hq
    | some os =>
      have hos := ax_b8ok_ok (os := os) hq
      have Y2 : ax_Yk ρ (ax_bY a b) 6 := X.yk.set (k := 5) r1 he ha hb
      refine ax_run_ok hG hV wk f 3 370 _ ax_be false 71 _ _ _ _ _ 6 0 os hr D ρ cL cS hh cs ss Post dd (X.yf Y2 X.fk) HL HS ?_ Hq
      intro ao hao ρ' co hp hO
      obtain ⟨k1, k2, k3, u, k4, k5⟩ := hos ao hao
      obtain ⟨o1, o2, o3, o4, OX⟩ := hO
      obtain ⟨Q, jQ, eQ⟩ := (o2 k1).toInt (ax_in_tag k3)
      have w := (OX.mm.pl (c := 148) (k := 8) (by decide) k4).2
      obtain ⟨Z, jZ, eZ⟩ := w.toInt (ax_in_tag k5)
      have bz := ax_in_ok k5 OX.yk jZ
      have eZ0 : Z = 0 := sx_b_inj (by show sx_b Z = 2147483648; omega)
      have hp1 : ρ <+: ρ ++ [sx_b Q] := List.prefix_append _ _
      have s1 := OX.r1
      have s2 := OX.r2
      rw [k2] at s1 s2
      refine Pq _ List.mem_cons_self (ρ ++ [sx_b Q]) co hp1 ⟨o1.trans k1, fun _ => ?_, o3, o4, ⟨X.yk.cons (ax_En.plain (lo := 0) (hi := 4294967295) (r := sx_b Q) (Nat.zero_le _) (by have := sx_b_lt Q; omega) (sx_b_lt Q)), (fun f hf => by cases hf), ?_, OX.hs, OX.fr, fun z => (X.nv z).mono hp1, s1, s2, OX.r3, OX.r4⟩⟩
      · rw [eQ]
        exact ax_V.int (ax_sym_J (n := 6) (by decide) X.yk.1 (sx_b_lt Q))
      · intro m hm
        rcases List.mem_cons.mp hm with rfl | hm
        · exact Or.inr ⟨show (148 : Nat) < 160 by decide, 8, show 8 < (ax_cl 148).1 / 256 by decide +kernel, ax_J_n (j := 8) (by decide), fun _ => rfl, by rw [eZ, eZ0]; exact ax_V.int (ax_J.i 0)⟩
        · cases hm
  by_cases h0 : r ≤ 2147483679
  · exact piece ax_q815_0 (by omega) h0
  by_cases h1 : r ≤ 2147483711
  · exact piece ax_q815_1 (by omega) h1
  by_cases h2 : r ≤ 2147483743
  · exact piece ax_q815_2 (by omega) h2
  by_cases h3 : r ≤ 2147483775
  · exact piece ax_q815_3 (by omega) h3
  by_cases h4 : r ≤ 2147483807
  · exact piece ax_q815_4 (by omega) h4
  by_cases h5 : r ≤ 2147483839
  · exact piece ax_q815_5 (by omega) h5
  by_cases h6 : r ≤ 2147483871
  · exact piece ax_q815_6 (by omega) h6
  exact piece ax_q815_7 (by omega) (by omega)
end AXB8
theorem ax_v815 {N : Nat} {sy : sx_Y} (h : ax_Sc N sy) : ax_Valid N sy ax_c815 := by
  have hV : ax_Gv N sy ax_g815 := ax_Gl.all (show ax_Gl N sy ax_g815.2.2.1 from ⟨⟨ax_v813 h, True.intro⟩, ⟨⟨ax_v814 h, True.intro⟩, ⟨⟨ax_v181 h, True.intro⟩, True.intro⟩⟩⟩)
  refine ax_chkR_ok (g := ax_g815) h.1 h.2 (fun W e1 e2 hG wk => ?_) rfl rfl rfl ax_q815
  subst e1 e2
  exact ax_runB_ok hG hV wk (ax_b815_ok hG hV wk) 100000
