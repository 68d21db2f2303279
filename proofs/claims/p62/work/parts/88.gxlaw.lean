/-! gx: the law's head and its rounds, in the functional layer -/
theorem fIi (i : Nat) (h : i < 4294967296) : fI (i : Int) = 8 * i := by
  unfold fI
  omega
theorem fop_63 (x : Int) : ∃ n : Nat, n < 64 ∧ fop 3 x 63 = (n : Int) := by
  have e : sx_bf 3 (Int32.ofInt x) (Int32.ofInt 63) = Int32.ofInt x &&& Int32.ofInt 63 := rfl
  have t : (Int32.ofInt x &&& Int32.ofInt 63).toBitVec.toNat ≤ 63 := by
    rw [Int32.toBitVec_and, BitVec.toNat_and]
    exact Nat.and_le_right
  refine ⟨(Int32.ofInt x &&& Int32.ofInt 63).toBitVec.toNat, by omega, ?_⟩
  unfold fop
  rw [e]
  show (Int32.ofInt x &&& Int32.ofInt 63).toBitVec.toInt = _
  rw [BitVec.toInt_eq_toNat_of_lt (by omega)]
/-- the law's targets -/
noncomputable def lw_tg (n : Nat) : Nat := Option.rec 0 (fun q => sx_tg1 q (2147483648 + n)) (sx_nth sx_tsw 0)
section GXL
variable {W : ax_W} {r d mi pc : Nat} {L S : List Nat} {g : Nat → Nat → Int} {Q : Nat → Nat → (Nat → Nat → Int) → Prop}
theorem fx.lim {a b : Nat} (h : fx (fWl W a) r d mi pc L S g Q) (hl : a ≤ b) : fx (fWl W b) r d mi pc L S g Q := fun D hh cs ss hD hv h1 h2 => by
  obtain ⟨o, ev, x1, x2, g', c1, c2, c3, c4⟩ := h D hh cs ss hD hv h1 h2
  have c3 : o.1 ≤ 1 → o.2.2.2.2.2.1 ≤ cs + a ∧ o.2.2.2.2.2.2 ≤ ss + 6 * a := c3
  have c4 : 1 < o.1 → 1 ≤ r ∧ o.2.2.2.2.2.1 ≤ cs + 1 + a ∧ o.2.2.2.2.2.2 ≤ ss + 6 + 6 * a := c4
  exact ⟨o, ev, x1, x2, g', c1, c2, fun t => by have := c3 t; exact ⟨by show _ ≤ cs + b; omega, by show _ ≤ ss + 6 * b; omega⟩, fun t => by have := c4 t; exact ⟨this.1, by show _ ≤ cs + 1 + b; omega, by show _ ≤ ss + 6 + 6 * b; omega⟩⟩
theorem fx_aln (pc' : Nat) (q : fq mi pc 17 = true) (hp : pc + 1 = pc') (hN : W.N < 2147483648) (k : fx W r d mi pc' L (fI (W.N : Int) :: S) g Q) : fx W r d mi pc L (5 :: S) g Q := by
  subst hp
  obtain ⟨o1, o2⟩ := fq_ok q
  refine fx_s o2 (fun ih D h cs ss _ => ?_) k
  have e : Nat.mul 8 W.N = fI (W.N : Int) := by rw [fIi _ (by omega)]; rfl
  rw [cx_b17 o1]
  unfold sx_oAlenX
  rw [fcp1, show sx_isB 5 = false from by decide +kernel, sx_if_f]
  unfold sx_oAlen
  rw [fcp1, sx_beq_t rfl, sx_if_t, sx_fo_eq, e]
theorem fx_sw {n : Nat} (q : (fq mi pc 37 && Nat.beq (sx_wa (fw mi pc)) 0) = true) (hn : n < 2147483648) (k : fx W r d mi (lw_tg n) L S g Q) : fx W r d mi pc L (fI (n : Int) :: S) g Q := by
  obtain ⟨q1, q2⟩ := f_and q
  obtain ⟨o1, o2⟩ := fq_ok q1
  refine fx_s o2 (fun ih D h cs ss _ => ?_) k
  have nm : ∀ K : Nat → sx_R, sx_nm W.sy (fI (n : Int)) K = K (fI (n : Int)) := fun K => by rw [fI_eq, cx_nm]
  have bs : sx_bs (sx_pl (fI (n : Int))) = 2147483648 + n := by
    rw [fIi n (by omega)]
    show ((8 * n) / 8 + 2147483648) % 4294967296 = 2147483648 + n
    omega
  rw [cx_b37 o1]
  unfold sx_oSw
  rw [fcp1, show sx_wa (sx_ft (sx_mt mi).1 pc) = 0 from sx_beq q2]
  unfold lw_tg
  cases hq : sx_nth sx_tsw 0 with
  | none => exact absurd hq (by decide +kernel)
  | some q =>
    show sx_nm W.sy (fI (n : Int)) _ = _
    rw [nm, fI_tg, sx_beq_t rfl, sx_if_t, sx_fo_eq, bs]
end GXL
section GXR
variable {W : ax_W} {r d : Nat} {g : Nat → Nat → Int} {Q : Nat → Nat → (Nat → Nat → Int) → Prop} {s : Nat → Int}
/-- the law's head -/
theorem law_head {i x5 x6 : Nat} (hs : fScr W s) (hN : W.N ≤ 3072) (hi : i ≤ W.N) (k1 : W.N < i + 6 → Q 1 (fI 1) g) (k2 : i + 6 ≤ W.N → ∀ n, n < 64 → fx W r d 0 (lw_tg n) [5, 2, 1186, 1274, fI (i : Int), x5, x6] [] g Q) : fx W r d 0 23 [5, 2, 1186, 1274, fI (i : Int), x5, x6] [] g Q := by
  refine fx_li 4 25 (by decide +kernel) rfl ?_
  refine fx_la 0 26 (v := 5) (by decide +kernel) rfl (by decide +kernel) ?_
  refine fx_aln 27 (by decide +kernel) rfl (by omega) ?_
  refine fx_ci 6 29 (by decide +kernel) ?_
  refine fx_sub 30 (by decide +kernel) rfl ?_
  refine fx_igt 1968 33 (by decide +kernel) (by unfold fR; omega) (by unfold fR; omega) (fun h => ?_) (fun h => ?_)
  · exact fx_ci 1 1969 (by decide +kernel) (fx_retb (by decide +kernel) (Or.inr rfl) (k1 (by omega)))
  · refine fx_la 0 34 (v := 5) (by decide +kernel) rfl (by decide +kernel) ?_
    refine fx_li 4 36 (by decide +kernel) rfl ?_
    refine fx_scr 37 hs (by decide +kernel) rfl (by omega) (by omega) ?_
    refine fx_ci 63 39 (by decide +kernel) ?_
    refine fx_bin 3 40 (by decide +kernel) rfl (fun h => absurd h (by decide)) ?_
    obtain ⟨n, n1, n2⟩ := fop_63 (s (i : Int).toNat)
    rw [n2]
    exact fx_sw (by decide +kernel) (by omega) (k2 (by omega) n n1)
/-- places that no case but the walked ones writes -/
def KP (c j : Nat) : Prop := RK c j ∨ (fPk c j ∧ ¬ (c = 1 ∧ j = 1) ∧ ¬ (c = 148 ∧ j = 8))
def KPb (c j : Nat) : Bool := (Nat.beq c 2 || (Nat.beq c 149 || (Nat.beq c 152 || (Nat.beq c 153 || Nat.beq c 150)))) || (((Nat.ble 3 c && Nat.ble c 7) || ((Nat.ble 16 c && Nat.ble c 21) || ((Nat.ble 76 c && Nat.ble c 147) || ((Nat.ble 9 c && Nat.ble c 13) || ((Nat.ble 56 c && Nat.ble c 66) || (Nat.ble 69 c && Nat.ble c 74)))))) || ((Nat.beq c 0 && (Nat.beq j 17 || (Nat.beq j 16 || Nat.beq j 15))) || ((Nat.beq c 148 && (Nat.beq j 6 || Nat.beq j 3)) || (Nat.beq c 8 && Nat.beq j 7))))
theorem KPb_of {c j : Nat} (h : KP c j) : KPb c j = true := by
  unfold KP RK fPk at h
  unfold KPb
  simp only [Bool.or_eq_true, Bool.and_eq_true, Nat.beq_eq, Nat.ble_eq]
  first
    | (rcases h with (h | h | h | h | ⟨h, h2 | h2⟩ | h | h | h | ⟨h, h2⟩) | ⟨⟨h, h2⟩ | ⟨h, h2⟩ | ⟨h, h2⟩ | h | h | h | h | ⟨h, h2 | h2⟩, n1, n2⟩
       · exact Or.inl (Or.inl h)
       · exact Or.inr (Or.inl (Or.inl h))
       · exact Or.inr (Or.inl (Or.inr (Or.inl h)))
       · exact Or.inr (Or.inl (Or.inr (Or.inr (Or.inl h))))
       · exact Or.inr (Or.inr (Or.inl (⟨h, Or.inl h2⟩)))
       · exact Or.inr (Or.inr (Or.inl (⟨h, Or.inr (Or.inl h2)⟩)))
       · exact Or.inl (Or.inr (Or.inl h))
       · exact Or.inl (Or.inr (Or.inr (Or.inl h)))
       · exact Or.inl (Or.inr (Or.inr (Or.inr (Or.inl h))))
       · exact Or.inr (Or.inr (Or.inr (Or.inl (⟨h, Or.inl h2⟩))))
       · exact Or.inr (Or.inr (Or.inl (⟨h, Or.inr (Or.inr h2)⟩)))
       · exact absurd ⟨h, h2⟩ n1
       · exact Or.inr (Or.inr (Or.inr (Or.inr (⟨h, h2⟩))))
       · exact Or.inr (Or.inl (Or.inr (Or.inr (Or.inr (Or.inl h)))))
       · exact Or.inr (Or.inl (Or.inr (Or.inr (Or.inr (Or.inr (Or.inl h))))))
       · exact Or.inr (Or.inl (Or.inr (Or.inr (Or.inr (Or.inr (Or.inr (h)))))))
       · exact Or.inl (Or.inr (Or.inr (Or.inr (Or.inr (h)))))
       · exact Or.inr (Or.inr (Or.inr (Or.inl (⟨h, Or.inr h2⟩))))
       · exact absurd ⟨h, h2⟩ n2)
    | omega
theorem KP_bit0 : (List.range 160).all (fun c => (List.range 32).all (fun j => !(KPb c j && Nat.blt j (Nat.div (ax_cl c).1 256)) || !ax_tb ax_all (ax_bit (ax_ar c) c j))) = true := by decide +kernel
theorem KP_bit (c : Nat) (hc : c < 160) (j : Nat) (hj : j < 32) (h : KP c j) (hl : j < (ax_cl c).1 / 256) : ax_tb ax_all (ax_bit (ax_ar c) c j) = false := by
  have q := List.all_eq_true.mp (List.all_eq_true.mp KP_bit0 c (List.mem_range.mpr hc)) j (List.mem_range.mpr hj)
  rw [KPb_of h, show Nat.blt j (Nat.div (ax_cl c).1 256) = true from sx_blt_t hl] at q
  cases e : ax_tb ax_all (ax_bit (ax_ar c) c j) with
  | false => rfl
  | true => rw [e] at q; cases q
theorem KP_0 {c j : Nat} (ha : ax_ar c = true) (h : KP c j) : KP c 0 := by
  have n0 : c ≠ 0 := fun e => by rw [e] at ha; exact absurd ha (by decide +kernel)
  have n1 : c ≠ 1 := fun e => by rw [e] at ha; exact absurd ha (by decide +kernel)
  have n2 : c ≠ 8 := fun e => by rw [e] at ha; exact absurd ha (by decide +kernel)
  have n3 : c ≠ 148 := fun e => by rw [e] at ha; exact absurd ha (by decide +kernel)
  unfold KP RK fPk at *
  first
    | (rcases h with (h | h | h | h | ⟨h, -⟩ | h | h | h | ⟨h, -⟩) | ⟨⟨h, -⟩ | ⟨h, -⟩ | ⟨h, -⟩ | h | h | h | h | ⟨h, -⟩, -, -⟩
       · exact Or.inl (Or.inl (h))
       · exact Or.inl (Or.inr (Or.inl (h)))
       · exact Or.inl (Or.inr (Or.inr (Or.inl (h))))
       · exact Or.inl (Or.inr (Or.inr (Or.inr (Or.inl (h)))))
       · exact absurd h n0
       · exact Or.inl (Or.inr (Or.inr (Or.inr (Or.inr (Or.inr (Or.inl (h)))))))
       · exact Or.inl (Or.inr (Or.inr (Or.inr (Or.inr (Or.inr (Or.inr (Or.inl (h))))))))
       · exact Or.inl (Or.inr (Or.inr (Or.inr (Or.inr (Or.inr (Or.inr (Or.inr (Or.inl (h)))))))))
       · exact absurd h n3
       · exact absurd h n0
       · exact absurd h n1
       · exact absurd h n2
       · exact Or.inr ⟨Or.inr (Or.inr (Or.inr (Or.inl (h)))), fun q => n1 q.1, fun q => n3 q.1⟩
       · exact Or.inr ⟨Or.inr (Or.inr (Or.inr (Or.inr (Or.inl (h))))), fun q => n1 q.1, fun q => n3 q.1⟩
       · exact Or.inr ⟨Or.inr (Or.inr (Or.inr (Or.inr (Or.inr (Or.inl (h)))))), fun q => n1 q.1, fun q => n3 q.1⟩
       · exact Or.inr ⟨Or.inr (Or.inr (Or.inr (Or.inr (Or.inr (Or.inr (Or.inl (h))))))), fun q => n1 q.1, fun q => n3 q.1⟩
       · exact absurd h n3)
    | omega
theorem KP_tb {c j : Nat} (hc : c < 160) (hj : j < (ax_cl c).1 / 256) (h : KP c j) : ax_tb ax_all (ax_bit (ax_ar c) c j) = false := by
  cases ha : ax_ar c with
  | true =>
    have := KP_bit c hc 0 (by decide) (KP_0 ha h) (by omega)
    rw [ha] at this
    exact this
  | false =>
    have l := ax_len32 c hc ha
    have := KP_bit c hc j (by omega) h hj
    rw [ha] at this
    exact this
/-- as in g where nothing is written, else as the cells say -/
noncomputable def fN (h : sx_H) (g : Nat → Nat → Int) (c j : Nat) : Int := @ite Int (KP c j) (Classical.propDecidable _) (g c j) (fG h c j)
theorem fN_k {h : sx_H} {g : Nat → Nat → Int} {c j : Nat} (k : KP c j) : fN h g c j = g c j := if_pos k
theorem fN_n {h : sx_H} {g : Nat → Nat → Int} {c j : Nat} (k : ¬ KP c j) : fN h g c j = fG h c j := if_neg k
/-- one case of the law that breaks nothing -/
theorem fx_case {l r2 pc dc i x5 x6 : Nat} (hC : ax_Cs W.N W.sy pc dc) (hd : dc ≤ d) (hs : fScr W s) (hN : W.N ≤ 3072) (hi : i + 6 ≤ W.N) (hI : LInv2 g) (h5 : x5 % 8 ≠ 4) (h6 : x6 % 8 ≠ 4) (hl : 2 + l ≤ W.lim) (hr : 2 + r2 ≤ r)
    (kq : ∀ g' x5 x6, LInv2 g' → x5 % 8 ≠ 4 → x6 % 8 ≠ 4 → fx (fWl W l) r2 d 0 23 [5, 2, 1186, 1274, fI ((i : Int) + 6), x5, x6] [] g' Q) : fx W r d 0 pc [5, 2, 1186, 1274, fI (i : Int), x5, x6] [] g Q := fun D h cs ss hD hv r1 r2' => by
  have hH : ax_Hs h := hI.1 h hv
  have ec : ∀ c j z, c < 160 → j < (ax_cl c).1 / 256 → fInt c j = true → g c j = z → sx_get (sx_rd h c).2 j = fI z := fun c j z a b i e => by
    rw [(hv.2 c j a b).1]; unfold fEnc; rw [if_pos i, e]
  have hT : sx_get (sx_rd h 1).2 1 = sx_get (sx_rd h 148).2 8 := by
    rw [ec 1 1 _ (by decide) (by decide +kernel) (by decide +kernel) hI.2.2.2.2.2.1, ec 148 8 _ (by decide) (by decide +kernel) (by decide +kernel) rfl]
  have hU : sx_get (sx_rd h 0).2 15 = sx_get (sx_rd h 148).2 3 := by
    rw [ec 0 15 _ (by decide) (by decide +kernel) (by decide +kernel) hI.2.2.2.2.2.2, ec 148 3 _ (by decide) (by decide +kernel) (by decide +kernel) rfl]
  obtain ⟨T, t1, t2, t3⟩ := ax_tape hH
  obtain ⟨U, u1, u2, u3⟩ := ax_img hH
  obtain ⟨gg, fuel, hq, hV, hmd, hnv, hlm⟩ := hC
  have wk : ax_Wk (ax_Wl W.N W.sy h cs ss) := ⟨hs.1, fun i hi => by
    obtain ⟨_, e, e1, e2, e3⟩ := hs.2 i hi
    exact ⟨_, e, e1, e2, e3⟩, by show cs + 2 ≤ 600002; omega, by show ss + 6 * 2 ≤ 7302232; omega⟩
  unfold ax_case at hq
  rw [ax_mtK_eq] at hq
  generalize hr' : ax_run gg fuel dc 0 (sx_mt 0).1 [ax_lI] false pc _ _ _ _ _ _ _ = res at hq
  cases res with
  | none => cases hq
  | some os =>
    have hos : os = [] := by
      cases os with
      | nil => rfl
      | cons a t => cases hq
    subst hos
    have hG : ax_Gk (ax_Wl W.N W.sy h cs ss) gg := ⟨hmd, hnv, hlm⟩
    have hF : ax_Fk (ax_ρl W.N i T U) [(1, 0, 34359738374)] := fun f hf => by
      rcases List.mem_cons.mp hf with rfl | hf
      · exact ⟨2147483648 + i, 2147483648 + W.N, rfl, rfl, by show 2147483648 + i + 34359738374 ≤ 2147483648 + W.N + 34359738368; omega⟩
      · cases hf
    have X1 := ax_l_X (sy := W.sy) (h0 := h) (cb := cs) (sb := ss) (cs := cs) (ss := ss) hN (by omega) hH t1 (hT.symm.trans t1) t2 t3 u1 (hU.symm.trans u1) u2 u3 hF (ax_Fr_refl _ _) (Nat.le_refl _) (Nat.le_refl _)
    have J1 : ax_J (ax_ρl W.N i T U) 4503599627370505 (sx_b (Int32.ofNat i)) := by rw [ax_b_n (by omega)]; exact ax_l_J1 (by omega)
    have HL1 := ax_L0_ok (i := i) (ax_V.int J1) h5 h6 (ax_i_8 (ax_b_n (by omega)))
    rw [fIi i (by omega)]
    refine ax_run_ok hG hV wk fuel dc 0 (sx_mt 0).1 [ax_lI] false pc _ [] _ _ _ 4 0 [] hr' D _ _ [] h cs ss _ (by omega) X1 HL1 ax_Ls.nil (fun ao ha => by cases ha) ?_
    intro e he ρ' L' S' M' F' Y' n' th' cL' cS' hh' cs' ss' hp X' HL' HS' ht
    rcases List.mem_cons.mp he with rfl | he
    · have ht : ax_bw ax_lI L' S' M' Y' n' = true := ht
      obtain ⟨q1, q2⟩ := ax_bw_ok hp X' HL' ht hi hN
      subst q1
      have e := HS'.nl
      subst e
      obtain ⟨-, hs', ⟨y5, y6, el, m5, m6⟩, hT', hU'⟩ := q2
      have r3 : cs' ≤ cs + 2 := X'.r3
      have r4 : ss' ≤ ss + 6 * 2 := X'.r4
      have v' := HV_of hs'
      have eg : ∀ c j c' j', c < 160 → j < (ax_cl c).1 / 256 → fInt c j = true → c' < 160 → j' < (ax_cl c').1 / 256 → fInt c' j' = true → sx_get (sx_rd hh' c).2 j = sx_get (sx_rd hh' c').2 j' → fG hh' c j = fG hh' c' j' := fun c j c' j' a b i a' b' i' e => by
        rw [(v'.2 c j a b).1, (v'.2 c' j' a' b').1] at e
        unfold fEnc at e
        rw [if_pos i, if_pos i'] at e
        exact fI_inj ((v'.2 c j a b).2.1 i) ((v'.2 c' j' a' b').2.1 i') e
      have vN : HV hh' (fN hh' g) := ⟨v'.1, fun c j hc hj => by
        by_cases k : KP c j
        · have e := X'.fr.1 c j hc hj (KP_tb hc hj k)
          rw [fN_k k]
          exact ⟨e.trans (hv.2 c j hc hj).1, (hv.2 c j hc hj).2.1, (v'.2 c j hc hj).2.2⟩
        · rw [fN_n k]
          exact v'.2 c j hc hj⟩
      have el2 : fN hh' g 1 1 = fN hh' g 148 8 := by
        rw [fN_n (by unfold KP RK fPk; decide), fN_n (by unfold KP RK fPk; decide)]
        exact eg 1 1 148 8 (by decide) (by decide +kernel) (by decide +kernel) (by decide) (by decide +kernel) (by decide +kernel) hT'
      have hI' : LInv2 (fN hh' g) := ⟨gHs_of hs' vN, LI_cg hI.2 (fun c j k => fN_k (Or.inl k)) (fun c j k k1 k2 => fN_k (Or.inr ⟨k, k1, k2⟩)) el2⟩
      have kk := kq (fN hh' g) y5 y6 hI' m5 m6
      rw [show ((i : Int) + 6) = ((i + 6 : Nat) : Int) from rfl, fIi _ (by omega)] at kk
      rw [el]
      obtain ⟨o, ev, z1, z2, g', z3, z4, z5, z6⟩ := kk D hh' cs' ss' hD vN (by omega) (by omega)
      have z5 : o.1 ≤ 1 → o.2.2.2.2.2.1 ≤ cs' + l ∧ o.2.2.2.2.2.2 ≤ ss' + 6 * l := z5
      have z6 : 1 < o.1 → 1 ≤ r2 ∧ o.2.2.2.2.2.1 ≤ cs' + 1 + l ∧ o.2.2.2.2.2.2 ≤ ss' + 6 + 6 * l := z6
      exact ⟨o, ev, z1, z2, g', z3, z4, fun t => by have := z5 t; omega, fun t => by have := z6 t; omega⟩
    · cases he
def ax_Csl (N : Nat) (sy : sx_Y) : List (Nat × Nat) → Prop
  | [] => True
  | q :: l => ax_Cs N sy q.1 q.2 ∧ ax_Csl N sy l
theorem ax_Csl.all {N : Nat} {sy : sx_Y} : ∀ {l : List (Nat × Nat)}, ax_Csl N sy l → ∀ q ∈ l, ax_Cs N sy q.1 q.2
  | [], _, q, hq => by cases hq
  | p :: l, h, q, hq => by
    rcases List.mem_cons.mp hq with rfl | hq
    · exact h.1
    · exact ax_Csl.all h.2 q hq
/-- a contract of a method, for the walks -/
def KW (N : Nat) (sy : sx_Y) (mi : Nat) (as : List (Nat × Nat × Nat)) : Prop := ∃ c, ax_Valid N sy c ∧ c.1 = mi ∧ c.2.2.1 = as ∧ c.2.2.2.1 = [] ∧ c.2.1 ≤ 42
end GXR
