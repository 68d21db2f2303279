/-! fx: the steps -/
def fw (mi pc : Nat) : Nat := sx_ft (sx_mt mi).1 pc
theorem fcp1 {a : Nat} {t : List Nat} {K : Nat → List Nat → sx_R} : sx_p1 (a :: t) K = K a t := rfl
/-- the word at a place: what it does, its two numbers, its long one -/
def fq (mi pc op : Nat) : Bool := Nat.beq (sx_op (fw mi pc)) op && Nat.beq (sx_wh (fw mi pc)) 0
theorem fq_ok {mi pc op : Nat} (h : fq mi pc op = true) : sx_op (sx_ft (sx_mt mi).1 pc) = op ∧ sx_wh (sx_ft (sx_mt mi).1 pc) = 0 := by
  unfold fq at h
  simp only [Bool.and_eq_true] at h
  exact ⟨sx_beq h.1, sx_beq h.2⟩
theorem f_and {a b : Bool} (h : (a && b) = true) : a = true ∧ b = true := by simpa only [Bool.and_eq_true] using h
section FXB
variable {W : ax_W} {r d mi pc : Nat} {L S : List Nat} {g : Nat → Nat → Int} {Q : Nat → Nat → (Nat → Nat → Int) → Prop}
theorem fx_cv (v pc' : Nat) (q : (fq mi pc 1 && (Nat.beq (sx_wc (fw mi pc)) v && Nat.beq (Nat.add pc (sx_wa (fw mi pc))) pc')) = true) (k : fx W r d mi pc' L (v :: S) g Q) : fx W r d mi pc L S g Q := by
  obtain ⟨q1, q2⟩ := f_and q
  obtain ⟨q2, q3⟩ := f_and q2
  obtain ⟨o1, o2⟩ := fq_ok q1
  refine fx_s o2 (fun ih D h cs ss _ => ?_) k
  rw [cx_b1 o1]
  unfold sx_oConst
  rw [sx_fo_eq, sx_fo_eq, show sx_wc (sx_ft (sx_mt mi).1 pc) = v from sx_beq q2, show Nat.add pc (sx_wa (sx_ft (sx_mt mi).1 pc)) = pc' from sx_beq q3]
theorem fx_ci (z : Int) (pc' : Nat) (q : (fq mi pc 1 && (Nat.beq (sx_wc (fw mi pc)) (fI z) && Nat.beq (Nat.add pc (sx_wa (fw mi pc))) pc')) = true) (k : fx W r d mi pc' L (fI z :: S) g Q) : fx W r d mi pc L S g Q := fx_cv (fI z) pc' q k
theorem fx_cn (z : Int) (pc' : Nat) (q : (fq mi pc 1 && (Nat.beq (sx_wc (fw mi pc)) (fI z) && Nat.beq (Nat.add pc (sx_wa (fw mi pc))) pc')) = true) (k : ∀ v, v = z → fx W r d mi pc' L (fI v :: S) g Q) : fx W r d mi pc L S g Q := fx_cv (fI z) pc' q (k z rfl)
def f_ql (mi pc a t pc' : Nat) : Bool := fq mi pc 2 && (Nat.beq (sx_wa (fw mi pc)) a && (Nat.beq (Nat.div (sx_wb (fw mi pc)) 16) t && Nat.beq (Nat.add pc (Nat.mod (sx_wb (fw mi pc)) 16)) pc'))
theorem fx_l0 {a t v pc' : Nat} (q : f_ql mi pc a t pc' = true) (hl : sx_ln L a = v) (ht : sx_ty t v = true) (k : fx W r d mi pc' L (v :: S) g Q) : fx W r d mi pc L S g Q := by
  obtain ⟨q1, q2⟩ := f_and q
  obtain ⟨q2, q3⟩ := f_and q2
  obtain ⟨q3, q4⟩ := f_and q3
  obtain ⟨o1, o2⟩ := fq_ok q1
  refine fx_s o2 (fun ih D h cs ss _ => ?_) k
  rw [cx_b2 o1]
  unfold sx_oLoad
  rw [sx_fo_eq, show sx_wa (sx_ft (sx_mt mi).1 pc) = a from sx_beq q2, hl, show Nat.div (sx_wb (sx_ft (sx_mt mi).1 pc)) 16 = t from sx_beq q3, ht, sx_if_t, sx_fo_eq, show Nat.add pc (Nat.mod (sx_wb (sx_ft (sx_mt mi).1 pc)) 16) = pc' from sx_beq q4]
theorem f_ty0 (z : Int) : sx_ty 0 (fI z) = true := by
  unfold sx_ty
  rw [sx_beq_t rfl, sx_if_t, fI_tg]; rfl
theorem fx_li (a pc' : Nat) {z : Int} (q : f_ql mi pc a 0 pc' = true) (hl : sx_ln L a = fI z) (k : fx W r d mi pc' L (fI z :: S) g Q) : fx W r d mi pc L S g Q := fx_l0 q hl (f_ty0 z) k
theorem fx_la (a pc' : Nat) {v : Nat} (q : f_ql mi pc a 1 pc' = true) (hl : sx_ln L a = v) (ht : sx_ty 1 v = true) (k : fx W r d mi pc' L (v :: S) g Q) : fx W r d mi pc L S g Q := fx_l0 q hl ht k
def f_qs (mi pc a t pc' : Nat) : Bool := fq mi pc 3 && (Nat.beq (sx_wa (fw mi pc)) a && (Nat.beq (Nat.div (sx_wb (fw mi pc)) 16) t && Nat.beq (Nat.add pc (Nat.mod (sx_wb (fw mi pc)) 16)) pc'))
/-- no long lies below the local a -/
def f_lo (L : List Nat) (a : Nat) : Prop := a = 0 ∨ sx_ln L (a - 1) % 8 ≠ 4
theorem f_lo_ok {a : Nat} (h : f_lo L a) : sx_if (Nat.beq a 0) true (!Nat.beq (sx_tg (sx_ln L (Nat.pred a))) 4) = true := by
  cases c : Nat.beq a 0 with
  | true => rfl
  | false =>
    have c := sx_beq_f c
    rw [sx_if_f, sx_beq_e (show ¬ sx_tg (sx_ln L (Nat.pred a)) = 4 from (h.resolve_left c))]
    rfl
theorem fI_n4 (z : Int) : fI z % 8 ≠ 4 := by have := fI_t8 z; omega
theorem fx_st {a v pc' t : Nat} (q : f_qs mi pc a t pc' = true) (t2 : t ≠ 2) (ht : sx_ty t v = true) (h4 : f_lo L a) (hn : Nat.blt a L.length = true) (k : fx W r d mi pc' (L.set a v) S g Q) : fx W r d mi pc L (v :: S) g Q := by
  obtain ⟨q1, q2⟩ := f_and q
  obtain ⟨q2, q3⟩ := f_and q2
  obtain ⟨q3, q4⟩ := f_and q3
  obtain ⟨o1, o2⟩ := fq_ok q1
  refine fx_s o2 (fun ih D h cs ss _ => ?_) k
  rw [cx_b3 o1]
  unfold sx_oStore
  rw [fcp1, show sx_wa (sx_ft (sx_mt mi).1 pc) = a from sx_beq q2, show Nat.div (sx_wb (sx_ft (sx_mt mi).1 pc)) 16 = t from sx_beq q3, ht, sx_if_t, f_lo_ok h4, sx_if_t, sx_fo_eq, sx_beq_e t2, sx_if_f, hn, sx_if_t, sx_stK_eq, show Nat.add pc (Nat.mod (sx_wb (sx_ft (sx_mt mi).1 pc)) 16) = pc' from sx_beq q4]
theorem fx_si (a pc' : Nat) {z : Int} (q : f_qs mi pc a 0 pc' = true) (h4 : f_lo L a) (hn : Nat.blt a L.length = true) (k : fx W r d mi pc' (L.set a (fI z)) S g Q) : fx W r d mi pc L (fI z :: S) g Q := fx_st q (by decide) (f_ty0 z) h4 hn k
theorem fx_sa (a pc' : Nat) {v : Nat} (q : f_qs mi pc a 1 pc' = true) (ht : sx_ty 1 v = true) (h4 : f_lo L a) (hn : Nat.blt a L.length = true) (k : fx W r d mi pc' (L.set a v) S g Q) : fx W r d mi pc L (v :: S) g Q := fx_st q (by decide) ht h4 hn k
/-! ints -/
noncomputable def fop (o : Nat) (x y : Int) : Int := (sx_bf o (Int32.ofInt x) (Int32.ofInt y)).toInt
theorem fop_i (o : Nat) (x y : Int) : sx_i (sx_bf o (Int32.ofInt x) (Int32.ofInt y)) = fI (fop o x y) := by
  rw [fI_eq]; unfold fop; rw [Int32.ofInt_toInt]
theorem fx_bin (o pc' : Nat) {x y : Int} (q : (fq mi pc 4 && Nat.beq (sx_wa (fw mi pc)) o) = true) (hp : pc + 1 = pc') (hy : 9 ≤ o → ¬ Int32.ofInt y = 0) (k : fx W r d mi pc' L (fI (fop o x y) :: S) g Q) : fx W r d mi pc L (fI y :: fI x :: S) g Q := by
  subst hp
  obtain ⟨q1, q2⟩ := f_and q
  obtain ⟨o1, o2⟩ := fq_ok q1
  refine fx_s o2 (fun ih D h cs ss _ => ?_) k
  rw [cx_b4 o1]
  unfold sx_oBin
  rw [fcp1, fcp1, fI_eq, fI_eq, cx_ii, sx_if_t, cx_bin2 (by rw [show sx_wa (sx_ft (sx_mt mi).1 pc) = o from sx_beq q2]; exact hy), sx_fo_eq, show sx_wa (sx_ft (sx_mt mi).1 pc) = o from sx_beq q2, fop_i]
theorem fI_add (x y : Int) : fI (fop 0 x y) = fI (x + y) := by
  rw [← fop_i, fI_eq, Int32.ofInt_add]; rfl
theorem fI_sub (x y : Int) : fI (fop 1 x y) = fI (x - y) := by
  rw [← fop_i, fI_eq, Int32.ofInt_sub]; rfl
theorem fI_mul (x y : Int) : fI (fop 2 x y) = fI (x * y) := by
  rw [← fop_i, fI_eq, Int32.ofInt_mul]; rfl
theorem fx_add (pc' : Nat) {x y : Int} (q : (fq mi pc 4 && Nat.beq (sx_wa (fw mi pc)) 0) = true) (hp : pc + 1 = pc') (k : fx W r d mi pc' L (fI (x + y) :: S) g Q) : fx W r d mi pc L (fI y :: fI x :: S) g Q := fx_bin 0 pc' q hp (fun h => by omega) (by rw [fI_add]; exact k)
theorem fx_sub (pc' : Nat) {x y : Int} (q : (fq mi pc 4 && Nat.beq (sx_wa (fw mi pc)) 1) = true) (hp : pc + 1 = pc') (k : fx W r d mi pc' L (fI (x - y) :: S) g Q) : fx W r d mi pc L (fI y :: fI x :: S) g Q := fx_bin 1 pc' q hp (fun h => by omega) (by rw [fI_sub]; exact k)
theorem fx_mul (pc' : Nat) {x y : Int} (q : (fq mi pc 4 && Nat.beq (sx_wa (fw mi pc)) 2) = true) (hp : pc + 1 = pc') (k : fx W r d mi pc' L (fI (x * y) :: S) g Q) : fx W r d mi pc L (fI y :: fI x :: S) g Q := fx_bin 2 pc' q hp (fun h => by omega) (by rw [fI_mul]; exact k)
theorem fI_of_toBv (P : Int32) : sx_i P = fI P.toInt := by rw [fI_eq, Int32.ofInt_toInt]
theorem fx_inc (a pc' : Nat) (y : Int) {x : Int} (q : (fq mi pc 5 && (Nat.beq (sx_wa (fw mi pc)) a && (Nat.beq (Nat.mul 8 (sx_wc (fw mi pc))) (fI y) && Nat.beq (Nat.add pc 3) pc'))) = true) (hl : sx_ln L a = fI x) (h4 : f_lo L a) (hn : Nat.blt a L.length = true) (k : fx W r d mi pc' (L.set a (fI (x + y))) S g Q) : fx W r d mi pc L S g Q := by
  obtain ⟨q1, q2⟩ := f_and q
  obtain ⟨q2, q3⟩ := f_and q2
  obtain ⟨q3, q4⟩ := f_and q3
  obtain ⟨o1, o2⟩ := fq_ok q1
  refine fx_s o2 (fun ih D h cs ss _ => ?_) k
  rw [cx_b5 o1]
  unfold sx_oIinc
  rw [show sx_wa (sx_ft (sx_mt mi).1 pc) = a from sx_beq q2, f_lo_ok h4, sx_if_t, hn, sx_if_t, sx_fo_eq, hl, fI_tg, show Nat.ble 0 1 = true from rfl, sx_if_t, show Nat.mul 8 (sx_wc (sx_ft (sx_mt mi).1 pc)) = fI y from sx_beq q3, fI_eq, fI_eq, cx_bin (fun h => by omega), sx_stK_eq, sx_fo_eq, show Nat.add pc 3 = pc' from sx_beq q4, fop_i, fI_add]
/-! comparisons -/
def fcb (c : Nat) (x y : Int) : Bool := if c = 0 then decide (x = y) else if c = 1 then !decide (x = y) else if c = 2 then decide (x < y) else if c = 3 then !decide (x < y) else if c = 4 then decide (y < x) else !decide (y < x)
theorem fcb_ok {c : Nat} {x y : Int} (hx : fR x) (hy : fR y) : ax_cb c (sx_b (Int32.ofInt x)) (sx_b (Int32.ofInt y)) = fcb c x y := by
  have ex := fI_b hx
  have ey := fI_b hy
  unfold ax_cb fcb
  have e1 : decide (sx_b (Int32.ofInt x) = sx_b (Int32.ofInt y)) = decide (x = y) := by
    by_cases q : x = y
    · rw [decide_eq_true q, decide_eq_true (by rw [q])]
    · rw [decide_eq_false q, decide_eq_false (by omega)]
  have e2 : decide (sx_b (Int32.ofInt x) < sx_b (Int32.ofInt y)) = decide (x < y) := by
    by_cases q : x < y
    · rw [decide_eq_true q, decide_eq_true (by omega)]
    · rw [decide_eq_false q, decide_eq_false (by omega)]
  have e3 : decide (sx_b (Int32.ofInt y) < sx_b (Int32.ofInt x)) = decide (y < x) := by
    by_cases q : y < x
    · rw [decide_eq_true q, decide_eq_true (by omega)]
    · rw [decide_eq_false q, decide_eq_false (by omega)]
  rw [e1, e2, e3]
theorem fx_icmp {c t pc' : Nat} {x y : Int} (q : (fq mi pc 7 && (Nat.beq (sx_wa (fw mi pc)) c && (Nat.beq (sx_wb (fw mi pc)) t && Nat.beq (Nat.add pc 3) pc'))) = true) (hx : fR x) (hy : fR y) (k1 : fcb c x y = true → fx W r d mi t L S g Q) (k2 : fcb c x y = false → fx W r d mi pc' L S g Q) : fx W r d mi pc L (fI y :: fI x :: S) g Q := by
  obtain ⟨q1, q2⟩ := f_and q
  obtain ⟨q2, q3⟩ := f_and q2
  obtain ⟨q3, q4⟩ := f_and q3
  obtain ⟨o1, o2⟩ := fq_ok q1
  have hb : ∀ (b : Bool), fcb c x y = b → ∀ (ih : sx_ih) D h cs ss, sx_body ih W.N (sx_ft (sx_mt mi).1 pc) D mi (sx_mt mi).1 [] pc L (fI y :: fI x :: S) h 160 W.sy cs ss = ih D mi (sx_mt mi).1 [] false (sx_if b t pc') L S h 160 W.sy cs ss := by
    intro b hb ih D h cs ss
    rw [cx_b7 o1]
    unfold sx_oIcmp
    rw [fcp1, fcp1, fI_eq, fI_eq, cx_ii, sx_if_t, cx_cmp, sx_fo_eq, show sx_wa (sx_ft (sx_mt mi).1 pc) = c from sx_beq q2, show sx_wb (sx_ft (sx_mt mi).1 pc) = t from sx_beq q3, show Nat.add pc 3 = pc' from sx_beq q4, fcb_ok hx hy, hb]
  cases hc : fcb c x y with
  | true => exact fx_s o2 (fun ih D h cs ss _ => hb true hc ih D h cs ss) (k1 hc)
  | false => exact fx_s o2 (fun ih D h cs ss _ => hb false hc ih D h cs ss) (k2 hc)
theorem fx_ifz {c t pc' : Nat} {x : Int} (q : (fq mi pc 6 && (Nat.beq (sx_wa (fw mi pc)) c && (Nat.beq (sx_wb (fw mi pc)) t && Nat.beq (Nat.add pc 3) pc'))) = true) (hx : fR x) (k1 : fcb c x 0 = true → fx W r d mi t L S g Q) (k2 : fcb c x 0 = false → fx W r d mi pc' L S g Q) : fx W r d mi pc L (fI x :: S) g Q := by
  obtain ⟨q1, q2⟩ := f_and q
  obtain ⟨q2, q3⟩ := f_and q2
  obtain ⟨q3, q4⟩ := f_and q3
  obtain ⟨o1, o2⟩ := fq_ok q1
  have hb : ∀ (b : Bool), fcb c x 0 = b → ∀ (ih : sx_ih) D h cs ss, sx_body ih W.N (sx_ft (sx_mt mi).1 pc) D mi (sx_mt mi).1 [] pc L (fI x :: S) h 160 W.sy cs ss = ih D mi (sx_mt mi).1 [] false (sx_if b t pc') L S h 160 W.sy cs ss := by
    intro b hb ih D h cs ss
    rw [cx_b6 o1]
    unfold sx_oIf
    have e0 : (0 : Nat) = sx_i (Int32.ofInt 0) := by decide +kernel
    rw [fcp1, fI_tg, show Nat.ble 0 1 = true from rfl, sx_if_t, fI_eq, e0, cx_cmp, sx_fo_eq, show sx_wa (sx_ft (sx_mt mi).1 pc) = c from sx_beq q2, show sx_wb (sx_ft (sx_mt mi).1 pc) = t from sx_beq q3, show Nat.add pc 3 = pc' from sx_beq q4, fcb_ok hx (by unfold fR; omega), hb]
  cases hc : fcb c x 0 with
  | true => exact fx_s o2 (fun ih D h cs ss _ => hb true hc ih D h cs ss) (k1 hc)
  | false => exact fx_s o2 (fun ih D h cs ss _ => hb false hc ih D h cs ss) (k2 hc)
def f_qc (mi pc op c t pc' : Nat) : Bool := fq mi pc op && (Nat.beq (sx_wa (fw mi pc)) c && (Nat.beq (sx_wb (fw mi pc)) t && Nat.beq (Nat.add pc 3) pc'))
theorem fx_ieq (t pc' : Nat) {x y : Int} (q : f_qc mi pc 7 0 t pc' = true) (hx : fR x) (hy : fR y) (k1 : x = y → fx W r d mi t L S g Q) (k2 : x ≠ y → fx W r d mi pc' L S g Q) : fx W r d mi pc L (fI y :: fI x :: S) g Q := fx_icmp q hx hy (fun h => k1 (of_decide_eq_true h)) (fun h => k2 (of_decide_eq_false h))
theorem fx_ine (t pc' : Nat) {x y : Int} (q : f_qc mi pc 7 1 t pc' = true) (hx : fR x) (hy : fR y) (k1 : x ≠ y → fx W r d mi t L S g Q) (k2 : x = y → fx W r d mi pc' L S g Q) : fx W r d mi pc L (fI y :: fI x :: S) g Q := fx_icmp q hx hy (fun h => k1 (of_decide_eq_false (by simpa [fcb] using h))) (fun h => k2 (of_decide_eq_true (by simpa [fcb] using h)))
theorem fx_ilt (t pc' : Nat) {x y : Int} (q : f_qc mi pc 7 2 t pc' = true) (hx : fR x) (hy : fR y) (k1 : x < y → fx W r d mi t L S g Q) (k2 : y ≤ x → fx W r d mi pc' L S g Q) : fx W r d mi pc L (fI y :: fI x :: S) g Q := fx_icmp q hx hy (fun h => k1 (by simpa [fcb] using h)) (fun h => k2 (by simpa [fcb] using h))
theorem fx_ige (t pc' : Nat) {x y : Int} (q : f_qc mi pc 7 3 t pc' = true) (hx : fR x) (hy : fR y) (k1 : y ≤ x → fx W r d mi t L S g Q) (k2 : x < y → fx W r d mi pc' L S g Q) : fx W r d mi pc L (fI y :: fI x :: S) g Q := fx_icmp q hx hy (fun h => k1 (by simpa [fcb] using h)) (fun h => k2 (by simpa [fcb] using h))
theorem fx_igt (t pc' : Nat) {x y : Int} (q : f_qc mi pc 7 4 t pc' = true) (hx : fR x) (hy : fR y) (k1 : y < x → fx W r d mi t L S g Q) (k2 : x ≤ y → fx W r d mi pc' L S g Q) : fx W r d mi pc L (fI y :: fI x :: S) g Q := fx_icmp q hx hy (fun h => k1 (by simpa [fcb] using h)) (fun h => k2 (by simpa [fcb] using h))
theorem fx_ile (t pc' : Nat) {x y : Int} (q : f_qc mi pc 7 5 t pc' = true) (hx : fR x) (hy : fR y) (k1 : x ≤ y → fx W r d mi t L S g Q) (k2 : y < x → fx W r d mi pc' L S g Q) : fx W r d mi pc L (fI y :: fI x :: S) g Q := fx_icmp q hx hy (fun h => k1 (by simpa [fcb] using h)) (fun h => k2 (by simpa [fcb] using h))
theorem fx_zeq (t pc' : Nat) {x : Int} (q : f_qc mi pc 6 0 t pc' = true) (hx : fR x) (k1 : x = 0 → fx W r d mi t L S g Q) (k2 : x ≠ 0 → fx W r d mi pc' L S g Q) : fx W r d mi pc L (fI x :: S) g Q := fx_ifz q hx (fun h => k1 (of_decide_eq_true h)) (fun h => k2 (of_decide_eq_false h))
theorem fx_zne (t pc' : Nat) {x : Int} (q : f_qc mi pc 6 1 t pc' = true) (hx : fR x) (k1 : x ≠ 0 → fx W r d mi t L S g Q) (k2 : x = 0 → fx W r d mi pc' L S g Q) : fx W r d mi pc L (fI x :: S) g Q := fx_ifz q hx (fun h => k1 (of_decide_eq_false (by simpa [fcb] using h))) (fun h => k2 (of_decide_eq_true (by simpa [fcb] using h)))
theorem fx_zlt (t pc' : Nat) {x : Int} (q : f_qc mi pc 6 2 t pc' = true) (hx : fR x) (k1 : x < 0 → fx W r d mi t L S g Q) (k2 : 0 ≤ x → fx W r d mi pc' L S g Q) : fx W r d mi pc L (fI x :: S) g Q := fx_ifz q hx (fun h => k1 (by simpa [fcb] using h)) (fun h => k2 (by simpa [fcb] using h))
theorem fx_zge (t pc' : Nat) {x : Int} (q : f_qc mi pc 6 3 t pc' = true) (hx : fR x) (k1 : 0 ≤ x → fx W r d mi t L S g Q) (k2 : x < 0 → fx W r d mi pc' L S g Q) : fx W r d mi pc L (fI x :: S) g Q := fx_ifz q hx (fun h => k1 (by simpa [fcb] using h)) (fun h => k2 (by simpa [fcb] using h))
theorem fx_zgt (t pc' : Nat) {x : Int} (q : f_qc mi pc 6 4 t pc' = true) (hx : fR x) (k1 : 0 < x → fx W r d mi t L S g Q) (k2 : x ≤ 0 → fx W r d mi pc' L S g Q) : fx W r d mi pc L (fI x :: S) g Q := fx_ifz q hx (fun h => k1 (by simpa [fcb] using h)) (fun h => k2 (by simpa [fcb] using h))
theorem fx_zle (t pc' : Nat) {x : Int} (q : f_qc mi pc 6 5 t pc' = true) (hx : fR x) (k1 : x ≤ 0 → fx W r d mi t L S g Q) (k2 : 0 < x → fx W r d mi pc' L S g Q) : fx W r d mi pc L (fI x :: S) g Q := fx_ifz q hx (fun h => k1 (by simpa [fcb] using h)) (fun h => k2 (by simpa [fcb] using h))
theorem fx_go (t : Nat) (q : (fq mi pc 8 && Nat.beq (sx_wb (fw mi pc)) t) = true) (k : fx W r d mi t L S g Q) : fx W r d mi pc L S g Q := by
  obtain ⟨q1, q2⟩ := f_and q
  obtain ⟨o1, o2⟩ := fq_ok q1
  refine fx_s o2 (fun ih D h cs ss _ => ?_) k
  rw [cx_b8 o1]
  unfold sx_oGoto
  rw [sx_fo_eq, show sx_wb (sx_ft (sx_mt mi).1 pc) = t from sx_beq q2]
end FXB
