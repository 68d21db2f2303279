/-! ax: all rounds of the law -/
def ax_gH : ax_G := (ax_all, 1, [], [], [], 4503599627370497, 2, [])
def ax_cases : List (Nat × Nat) := [(300, 2), (373, 2), (398, 13), (414, 33), (430, 1), (443, 35), (483, 3), (523, 35), (575, 3), (615, 4), (643, 4), (671, 37), (699, 35), (727, 4), (755, 4), (795, 4), (835, 38), (863, 5), (903, 5), (943, 7), (987, 7), (1003, 7), (1019, 5), (1032, 5), (1060, 35), (1088, 5), (1113, 5), (1126, 7), (1154, 6), (1182, 5), (1195, 7), (1208, 7), (1221, 5), (1246, 8), (1274, 8), (1287, 6), (1315, 5), (1331, 3), (1359, 3), (1372, 2), (1385, 5), (1413, 5), (1426, 5), (1439, 4), (1452, 5), (1465, 6), (1517, 36), (1545, 5), (1558, 38), (1586, 2), (1599, 35), (1627, 38), (1667, 38), (1723, 38), (1779, 4), (1835, 3), (1875, 1), (1900, 2), (1913, 2), (1924, 2), (1937, 4), (1962, 0)]
noncomputable def ax_h1 (F : ax_F) (lst : List ax_I) : Bool := Option.rec false (fun os => List.rec true (fun o _ ih => sx_and (sx_and (Nat.beq o.1 1) (Nat.beq o.2.1 8)) ih) os) (ax_runB (ax_lb0 ax_cases) ax_gH 60 40 0 sx_c0 lst true 23 (ax_L0 4503599627370505) [] ax_M0 F ax_Y0 3 0)
set_option maxRecDepth 1000000 in
theorem ax_qH1 : ax_h1 [(1, 0, 34359738374)] [ax_lI] = true := by decide +kernel
set_option maxRecDepth 1000000 in
theorem ax_qH2 : ax_h1 [(0, 1, 34359738363)] [] = true := by decide +kernel
def ax_Csl (N : Nat) (sy : sx_Y) : List (Nat × Nat) → Prop
  | [] => True
  | q :: l => ax_Cs N sy q.1 q.2 ∧ ax_Csl N sy l
def ax_Pl (co : sx_O) : Prop := co.1 = 1 ∧ co.2.1 = 8 ∧ co.2.2.2.2.2.1 ≤ 600002 ∧ co.2.2.2.2.2.2 ≤ 7293034
/-- all rounds from i on -/
def ax_Rd (N : Nat) (sy : sx_Y) (c0 s0 i : Nat) : Prop := ∀ cL hh cs ss, ax_Lw N i cL hh → cs ≤ c0 + i → ss ≤ s0 + 2 * i → ∃ co, (∃ f0, ∀ f, f0 ≤ f → sx_run N f 40 0 sx_c0 [] false 23 cL [] hh 160 sy cs ss = some [co]) ∧ ax_Pl co
section AXRd
variable {N : Nat} {sy : sx_Y}
theorem ax_Csl.all : ∀ {l : List (Nat × Nat)}, ax_Csl N sy l → ∀ q ∈ l, ax_Cs N sy q.1 q.2
  | [], _, q, hq => by cases hq
  | p :: l, h, q, hq => by
    rcases List.mem_cons.mp hq with rfl | hq
    · exact h.1
    · exact ax_Csl.all h.2 q hq
theorem ax_h1_ok {os : List ax_O} (h : (List.rec true (fun o _ ih => sx_and (sx_and (Nat.beq o.1 1) (Nat.beq o.2.1 8)) ih) os : Bool) = true) : ∀ o ∈ os, o.1 = 1 ∧ o.2.1 = 8 := by
  induction os with
  | nil => intro o ho; cases ho
  | cons q t ih =>
    have h : sx_and (sx_and (Nat.beq q.1 1) (Nat.beq q.2.1 8)) (List.rec true (fun o _ ih => sx_and (sx_and (Nat.beq o.1 1) (Nat.beq o.2.1 8)) ih) t) = true := h
    obtain ⟨h1, h2⟩ := sx_and_ok h
    obtain ⟨h1, h3⟩ := sx_and_ok h1
    intro o ho
    rcases List.mem_cons.mp ho with rfl | ho
    · exact ⟨sx_beq h1, sx_beq h3⟩
    · exact ih h2 o ho
theorem ax_head_ok {i c0 s0 : Nat} {F : ax_F} {lst : List ax_I} {T : Int32} {x5 x6 : Nat} {hh : sx_H} {cs ss : Nat} (hS : ax_Sc N sy) (hN : N ≤ 3072) (hi : i ≤ N) (h1 : c0 ≤ 500000) (h2 : s0 ≤ 7000000) (hC : ax_Csl N sy ax_cases) (hs : ax_Hs hh) (t1 : sx_get (sx_rd hh 1).2 1 = sx_i T) (t2 : 2147483648 ≤ sx_b T) (t3 : sx_b T ≤ 2147484048) (hT : sx_get (sx_rd hh 1).2 1 = sx_get (sx_rd hh 148).2 8) (n5 : x5 % 8 ≠ 4) (n6 : x6 % 8 ≠ 4) (r1 : cs ≤ c0 + i) (r2 : ss ≤ s0 + 2 * i)
    (hq : ax_h1 F lst = true) (hF : ax_Fk (ax_ρl N i T) F) (Hq : ax_Hq (ax_Wl N sy hh cs ss) 40 0 sx_c0 (ax_ρl N i T) lst ax_Pl) : cx_G (ax_Wl N sy hh cs ss) 40 0 sx_c0 23 [5, 2, 1186, 1274, 8 * i, x5, x6] [] hh cs ss ax_Pl := by
  have wk : ax_Wk (ax_Wl N sy hh cs ss) := ⟨hS.1, hS.2, by show cs + 2 ≤ 600002; omega, by show ss + 6 * 2 ≤ 7302232; omega⟩
  have hG : ax_Gk (ax_Wl N sy hh cs ss) ax_gH := ⟨rfl, rfl, rfl⟩
  have hV : ax_Gv N sy ax_gH := fun q hq => by cases hq
  have ok := ax_runB_ok hG hV wk (ax_base_ok hN wk hC.all) 60
  unfold ax_h1 at hq
  generalize hr : ax_runB (ax_lb0 ax_cases) ax_gH 60 40 0 sx_c0 lst true 23 _ _ _ _ _ _ _ = res at hq
  cases res with
  | none => cases hq
  | some os =>
    have hos := ax_h1_ok (os := os) hq
    have X := ax_l_X (sy := sy) (h0 := hh) (cb := cs) (sb := ss) (cs := cs) (ss := ss) hN hi hs t1 (hT.symm.trans t1) t2 t3 hF (fun _ _ _ _ _ => rfl) (Nat.le_refl _) (Nat.le_refl _)
    have J1 : ax_J (ax_ρl N i T) 4503599627370505 (sx_b (Int32.ofNat i)) := by rw [ax_b_n (by omega)]; exact ax_l_J1 (by omega)
    have HL := ax_L0_ok (i := i) (ax_V.int J1) n5 n6 (ax_i_8 (ax_b_n (by omega)))
    refine ok 40 0 sx_c0 lst true 23 _ [] _ F _ 3 0 os hr 40 _ _ [] hh cs ss ax_Pl (Nat.le_refl _) X HL ax_Ls.nil ?_ Hq
    intro ao ha ρ' co hp hO
    obtain ⟨k1, k2⟩ := hos ao ha
    obtain ⟨o1, o2, -, -, OX⟩ := hO
    have hv := o2 k1
    rw [k2] at hv
    obtain ⟨P, jP, eP⟩ := hv.toInt (by decide)
    have r3 : co.2.2.2.2.2.1 ≤ cs + 2 := OX.r3
    have r4 : co.2.2.2.2.2.2 ≤ ss + 6 * 2 := OX.r4
    exact ⟨o1.trans k1, by rw [eP]; exact (jP.i0 (by decide)).1.symm, by omega, by omega⟩
theorem ax_rounds {c0 s0 : Nat} (hS : ax_Sc N sy) (hN : N ≤ 3072) (h1 : c0 ≤ 500000) (h2 : s0 ≤ 7000000) (hC : ax_Csl N sy ax_cases) : ∀ m i, N - i < m → ax_Rd N sy c0 s0 i := by
  intro m
  induction m with
  | zero => intro i h; exact absurd h (Nat.not_lt_zero _)
  | succ m ihm =>
    intro i hm cL hh cs ss hL r1 r2
    obtain ⟨hi, hs, ⟨x5, x6, rfl, n5, n6⟩, hT⟩ := hL
    obtain ⟨T, t1, t2, t3⟩ := ax_tape hs
    by_cases h6 : i + 6 ≤ N
    · have hF : ax_Fk (ax_ρl N i T) [(1, 0, 34359738374)] := fun f hf => by
        rcases List.mem_cons.mp hf with rfl | hf
        · exact ⟨2147483648 + i, 2147483648 + N, rfl, rfl, by show 2147483648 + i + 34359738374 ≤ 2147483648 + N + 34359738368; omega⟩
        · cases hf
      refine ax_head_ok hS hN hi h1 h2 hC hs t1 t2 t3 hT n5 n6 r1 r2 ax_qH1 hF ?_
      intro e he ρ' L' S' M' F' Y' n' th' cL' cS' hh' cs' ss' hp X' HL' HS' ht
      rcases List.mem_cons.mp he with rfl | he
      · have ht : ax_bw ax_lI L' S' M' Y' n' = true := ht
        obtain ⟨q1, q2⟩ := ax_bw_ok hp X' HL' ht h6 hN
        subst q1
        have e := HS'.nl
        subst e
        have r3 : cs' ≤ cs + 2 := X'.r3
        have r4 : ss' ≤ ss + 6 * 2 := X'.r4
        exact ihm (i + 6) (by omega) cL' hh' cs' ss' q2 (by omega) (by omega)
      · cases he
    · have hF : ax_Fk (ax_ρl N i T) [(0, 1, 34359738363)] := fun f hf => by
        rcases List.mem_cons.mp hf with rfl | hf
        · exact ⟨2147483648 + N, 2147483648 + i, rfl, rfl, by show 2147483648 + N + 34359738363 ≤ 2147483648 + i + 34359738368; omega⟩
        · cases hf
      exact ax_head_ok hS hN hi h1 h2 hC hs t1 t2 t3 hT n5 n6 r1 r2 ax_qH2 hF (fun e he => by cases he)
end AXRd
