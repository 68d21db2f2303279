/-! sx: places of arrays -/
section SXArr
variable {N : Nat} {ih : sx_ih} {w d mi pc n cs ss : Nat} {lst : List sx_I} {L S : List Nat} {h : sx_H} {sy : sx_Y} {outs : List sx_O}
variable {p : Program} {l : Launch} {e : Env} {R : Room} {s : State} {m : MethodId} {args : Array Value} {below : List Frame} {meth : Method} {c : Code} {D : va_G} {K : ClassId → FieldType → Prop} {b : Nat → Nat} {xs : Nat → Int32} {A : Nat → Prop} {q : sx_M}
variable {ad : List Nat} {rs : List Int32} {ls : Array Slot} {st : List Value} {H : Heap} {locs : List Loc} {cells slots : Nat} {Q : State → Prop}
theorem sx_sIald (IH : sx_Ok N ih) (hC : sx_Cx p e R s m meth c D K b N xs A mi d q) (hA : sx_At R s c D K b N xs A ad rs cells slots locs L S h n sy cs ss ls st H) (hL : sx_Ls p l e R s m args below meth c D K b N xs A Q ad rs lst) (hQ : ∀ o ∈ outs, ∀ t, sx_En R s below D K b A ad rs o t → Q t)
    (hN31 : N < 2 ^ 31) (hk : sx_dc q pc .iaload 1 = true) (hr : sx_oAld ih N d mi (sx_mt mi).1 lst pc L S h n sy cs ss 100 = some outs) : W p l e R s m args below meth c H locs cells slots Q (F0 m pc ls st) := by
  obtain ⟨-, hx, -, hb, hml, -, -, -, hown, -, hT, -⟩ := id hC
  obtain ⟨hLc, hSt, hrest⟩ := id hA
  unfold sx_oAld at hr
  cases S with
  | nil => cases hr
  | cons v r =>
  cases r with
  | nil => cases hr
  | cons u r2 =>
  obtain ⟨xi, st1, rfl, hvi, hSt1⟩ := hSt.cons
  obtain ⟨xa, st2, rfl, hva, hSt2⟩ := hSt1.cons
  rw [sx_p1_cons, sx_p1_cons] at hr
  obtain ⟨hY, hG, hS, hxs, hrm⟩ := id hrest
  cases hc : sx_and (Nat.beq (sx_tg u) 2) (Nat.blt (sx_pl u) n) with
  | true =>
    rw [hc, sx_if_t] at hr
    obtain ⟨c1, -⟩ := sx_and_ok hc
    obtain ⟨x, sy', outs', rfl, hr, hsub, hY', -⟩ := sx_ix_ok hr hY hvi
    simp only [sx_rdK_eq, sx_fo_eq] at hr
    obtain ⟨hk2, hr⟩ := sx_if_ok hr
    obtain ⟨k1, k2⟩ := sx_and_ok hk2
    have k1 : (sx_rd h (u / 8)).1 % 256 = 100 := sx_beq k1
    have k2 : x < (sx_rd h (u / 8)).1 / 256 := sx_blt k2
    obtain ⟨a, ha, rfl⟩ := hva.t2 (sx_beq c1)
    obtain ⟨ws, e, hP, hD, g3, g4, g5, g6, he, hE⟩ := hG.at ha
    have hr : ih d mi (sx_mt mi).1 lst false (Nat.succ pc) L (sx_get (sx_rd h (u / 8)).2 x :: r2) h n sy' cs ss = some outs' := hr
    rcases hE with ⟨ci, fs, -, e2, ⟨C, e3, -⟩, -⟩ | ⟨cA, f, rfl, e2, e3, e4⟩ | ⟨cA, f, -, e2, -⟩ | ⟨cA, f, -, e2, -⟩
    · have := (List.getElem?_eq_some_iff.mp e3).1; rw [sx_fl_len.2] at this; omega
    · obtain ⟨i1, i2⟩ := sx_in_ok k2 e3.2
      have v := e4 x k2
      rw [← i2] at v
      exact va_iald hx hb (sx_KA hT e3.1) hP (u / 8) 0 he rfl i1 (sx_dc_ok hk) (sx_go IH hr hC ⟨hLc, ⟨by rw [i2] at v ⊢; exact v, hSt2⟩, hY', hG, hS, hxs, hrm⟩ hL List.prefix_rfl List.prefix_rfl hsub hQ)
    · omega
    · omega
  | false =>
    rw [hc, sx_if_f] at hr
    obtain ⟨h5, hr⟩ := sx_if_ok hr
    obtain ⟨h5, -⟩ := sx_and_ok h5
    have h5 : u = 5 := sx_beq h5
    obtain ⟨x, sy', outs', rfl, hr, hsub, hY', -⟩ := sx_ix_ok hr hY hvi
    obtain ⟨k2, hr⟩ := sx_if_ok hr
    have k2 : x < N := sx_blt k2
    have e := hva.t5 (by rw [h5])
    rw [show b (u / 8) = b 0 by rw [h5]] at e
    subst e
    obtain ⟨-, -, -, -, -, -, -, -, -, -, -, -, hX, hbl, hbA, -⟩ := id hC
    have hN : N < 2 ^ 31 := hN31
    have i1 : vp_in (Int32.ofNat x) N := vp_in_nI k2 hN
    have i2 : (Int32.ofNat x).toNatClampNeg = x := nI_clamp (n := x) (by omega)
    have v : sx_V b ad rs (Nat.succ (Nat.mul 8 x)) (.int (xs x)) := by
      have e : Nat.succ (Nat.mul 8 x) = 8 * x + 1 := rfl
      rw [e]
      exact Or.inr (Or.inl ⟨by omega, xs x, by rw [show (8 * x + 1) / 8 = x by omega]; exact hxs x k2, rfl⟩)
    obtain ⟨v', hr, v, -⟩ := sx_nm_ok hr hY' v
    simp only [sx_fo_eq] at hr
    exact va_sld hx hb hX hbl hbA hS i1 (sx_dc_ok hk) (sx_go IH hr hC ⟨hLc, ⟨by rw [i2]; exact v, hSt2⟩, hY', hG, hS, hxs, hrm⟩ hL List.prefix_rfl List.prefix_rfl hsub hQ)
theorem sx_sLald (IH : sx_Ok N ih) (hC : sx_Cx p e R s m meth c D K b N xs A mi d q) (hA : sx_At R s c D K b N xs A ad rs cells slots locs L S h n sy cs ss ls st H) (hL : sx_Ls p l e R s m args below meth c D K b N xs A Q ad rs lst) (hQ : ∀ o ∈ outs, ∀ t, sx_En R s below D K b A ad rs o t → Q t)
    (hk : sx_dc q pc .laload 1 = true) (hr : sx_oAld ih N d mi (sx_mt mi).1 lst pc L S h n sy cs ss 101 = some outs) : W p l e R s m args below meth c H locs cells slots Q (F0 m pc ls st) := by
  obtain ⟨-, hx, -, hb, hml, -, -, -, hown, -, hT, -⟩ := id hC
  obtain ⟨hLc, hSt, hrest⟩ := id hA
  unfold sx_oAld at hr
  cases S with
  | nil => cases hr
  | cons v r =>
  cases r with
  | nil => cases hr
  | cons u r2 =>
  obtain ⟨xi, st1, rfl, hvi, hSt1⟩ := hSt.cons
  obtain ⟨xa, st2, rfl, hva, hSt2⟩ := hSt1.cons
  rw [sx_p1_cons, sx_p1_cons] at hr
  obtain ⟨hY, hG, hS, hxs, hrm⟩ := id hrest
  cases hc : sx_and (Nat.beq (sx_tg u) 2) (Nat.blt (sx_pl u) n) with
  | true =>
    rw [hc, sx_if_t] at hr
    obtain ⟨c1, -⟩ := sx_and_ok hc
    obtain ⟨x, sy', outs', rfl, hr, hsub, hY', -⟩ := sx_ix_ok hr hY hvi
    simp only [sx_rdK_eq, sx_fo_eq] at hr
    obtain ⟨hk2, hr⟩ := sx_if_ok hr
    obtain ⟨k1, k2⟩ := sx_and_ok hk2
    have k1 : (sx_rd h (u / 8)).1 % 256 = 101 := sx_beq k1
    have k2 : x < (sx_rd h (u / 8)).1 / 256 := sx_blt k2
    obtain ⟨a, ha, rfl⟩ := hva.t2 (sx_beq c1)
    obtain ⟨ws, e, hP, hD, g3, g4, g5, g6, he, hE⟩ := hG.at ha
    have hr : sx_fo (Nat.add (sx_get (sx_rd h (u / 8)).2 x) 4) (fun v => ih d mi (sx_mt mi).1 lst false (Nat.succ pc) L (v :: r2) h n sy' cs ss) = some outs' := hr
    rw [sx_fo_eq] at hr
    rcases hE with ⟨ci, fs, -, e2, ⟨C, e3, -⟩, -⟩ | ⟨cA, f, -, e2, -⟩ | ⟨cA, f, rfl, e2, e3, e4⟩ | ⟨cA, f, -, e2, -⟩
    · have := (List.getElem?_eq_some_iff.mp e3).1; rw [sx_fl_len.2] at this; omega
    · omega
    · obtain ⟨i1, i2⟩ := sx_in_ok k2 e3.2
      obtain ⟨v1, v2⟩ := e4 x k2
      have v : sx_V b ad rs (Nat.add (sx_get (sx_rd h (u / 8)).2 x) 4) (.long (f (Int32.ofNat x).toNatClampNeg)) := by
        rw [i2, v2]
        refine Or.inr (Or.inr (Or.inr (Or.inr (Or.inl ⟨?_, ?_⟩))))
        · show (sx_get (sx_rd h (u / 8)).2 x + 4) % 8 = 4; omega
        · rw [show Nat.add (sx_get (sx_rd h (u / 8)).2 x) 4 / 8 = sx_get (sx_rd h (u / 8)).2 x / 8 from by show (sx_get (sx_rd h (u / 8)).2 x + 4) / 8 = _; omega]
      exact va_lald hx hb (sx_KA hT e3.1) hP (u / 8) 0 he rfl i1 (sx_dc_ok hk) (sx_go IH hr hC ⟨hLc, ⟨v, hSt2⟩, hY', hG, hS, hxs, hrm⟩ hL List.prefix_rfl List.prefix_rfl hsub hQ)
    · omega
  | false =>
    rw [hc, sx_if_f] at hr
    obtain ⟨h5, hr⟩ := sx_if_ok hr
    obtain ⟨-, h5⟩ := sx_and_ok h5
    cases h5
theorem sx_sAald (IH : sx_Ok N ih) (hC : sx_Cx p e R s m meth c D K b N xs A mi d q) (hA : sx_At R s c D K b N xs A ad rs cells slots locs L S h n sy cs ss ls st H) (hL : sx_Ls p l e R s m args below meth c D K b N xs A Q ad rs lst) (hQ : ∀ o ∈ outs, ∀ t, sx_En R s below D K b A ad rs o t → Q t)
    (hk : sx_dc q pc .aaload 1 = true) (hr : sx_oAld ih N d mi (sx_mt mi).1 lst pc L S h n sy cs ss 102 = some outs) : W p l e R s m args below meth c H locs cells slots Q (F0 m pc ls st) := by
  obtain ⟨-, hx, -, hb, hml, -, -, -, hown, -, hT, -⟩ := id hC
  obtain ⟨hLc, hSt, hrest⟩ := id hA
  unfold sx_oAld at hr
  cases S with
  | nil => cases hr
  | cons v r =>
  cases r with
  | nil => cases hr
  | cons u r2 =>
  obtain ⟨xi, st1, rfl, hvi, hSt1⟩ := hSt.cons
  obtain ⟨xa, st2, rfl, hva, hSt2⟩ := hSt1.cons
  rw [sx_p1_cons, sx_p1_cons] at hr
  obtain ⟨hY, hG, hS, hxs, hrm⟩ := id hrest
  cases hc : sx_and (Nat.beq (sx_tg u) 2) (Nat.blt (sx_pl u) n) with
  | true =>
    rw [hc, sx_if_t] at hr
    obtain ⟨c1, -⟩ := sx_and_ok hc
    obtain ⟨x, sy', outs', rfl, hr, hsub, hY', -⟩ := sx_ix_ok hr hY hvi
    simp only [sx_rdK_eq, sx_fo_eq] at hr
    obtain ⟨hk2, hr⟩ := sx_if_ok hr
    obtain ⟨k1, k2⟩ := sx_and_ok hk2
    have k1 : (sx_rd h (u / 8)).1 % 256 = 102 := sx_beq k1
    have k2 : x < (sx_rd h (u / 8)).1 / 256 := sx_blt k2
    obtain ⟨a, ha, rfl⟩ := hva.t2 (sx_beq c1)
    obtain ⟨ws, e, hP, hD, g3, g4, g5, g6, he, hE⟩ := hG.at ha
    have hr : sx_if (Nat.beq (sx_get (sx_rd h (u / 8)).2 x) 0) none (ih d mi (sx_mt mi).1 lst false (Nat.succ pc) L (sx_get (sx_rd h (u / 8)).2 x :: r2) h n sy' cs ss) = some outs' := hr
    cases hz : Nat.beq (sx_get (sx_rd h (u / 8)).2 x) 0 with
    | true => rw [hz] at hr; cases hr
    | false =>
    rw [hz, sx_if_f] at hr
    rcases hE with ⟨ci, fs, -, e2, ⟨C, e3, -⟩, -⟩ | ⟨cA, f, -, e2, -⟩ | ⟨cA, f, -, e2, -⟩ | ⟨cA, f, rfl, e2, e3, e4⟩
    · have := (List.getElem?_eq_some_iff.mp e3).1; rw [sx_fl_len.2] at this; omega
    · omega
    · omega
    · obtain ⟨i1, i2⟩ := sx_in_ok k2 e3.2
      obtain ⟨qa, q1, q2, q3⟩ := (e4 x k2).resolve_left (fun h => sx_beq_f hz h.1)
      have v : sx_V b ad rs (sx_get (sx_rd h (u / 8)).2 x) (va_rf (f (Int32.ofNat x).toNatClampNeg)) := by
        rw [i2, q1]
        exact Or.inr (Or.inr (Or.inl ⟨q2, qa, q3, rfl⟩))
      exact va_aldq hx hb (sx_KA hT e3.1) hP (u / 8) 0 he rfl i1 (sx_dc_ok hk) (sx_go IH hr hC ⟨hLc, ⟨v, hSt2⟩, hY', hG, hS, hxs, hrm⟩ hL List.prefix_rfl List.prefix_rfl hsub hQ)
  | false =>
    rw [hc, sx_if_f] at hr
    obtain ⟨h5, hr⟩ := sx_if_ok hr
    obtain ⟨-, h5⟩ := sx_and_ok h5
    cases h5
theorem sx_sIast (IH : sx_Ok N ih) (hC : sx_Cx p e R s m meth c D K b N xs A mi d q) (hA : sx_At R s c D K b N xs A ad rs cells slots locs L S h n sy cs ss ls st H) (hL : sx_Ls p l e R s m args below meth c D K b N xs A Q ad rs lst) (hQ : ∀ o ∈ outs, ∀ t, sx_En R s below D K b A ad rs o t → Q t)
    (hk : sx_dc q pc .iastore 1 = true) (hr : sx_oAst ih d mi (sx_mt mi).1 lst pc L S h n sy cs ss 100 = some outs) : W p l e R s m args below meth c H locs cells slots Q (F0 m pc ls st) := by
  obtain ⟨-, hx, -, hb, hml, -, -, -, hown, -, hT, -⟩ := id hC
  obtain ⟨hLc, hSt, hrest⟩ := id hA
  unfold sx_oAst at hr
  cases S with
  | nil => cases hr
  | cons v r =>
  cases r with
  | nil => cases hr
  | cons u r2 =>
  cases r2 with
  | nil => cases hr
  | cons t r3 =>
  obtain ⟨xv, st0, rfl, hvv, hSt0⟩ := hSt.cons
  obtain ⟨xi, st1, rfl, hvi, hSt1⟩ := hSt0.cons
  obtain ⟨xa, st2, rfl, hva, hSt2⟩ := hSt1.cons
  rw [sx_p1_cons, sx_p1_cons, sx_p1_cons] at hr
  obtain ⟨hY, hG, hS, hxs, hrm⟩ := id hrest
  obtain ⟨hc, hr⟩ := sx_if_ok hr
  obtain ⟨c1, -⟩ := sx_and_ok hc
  obtain ⟨x, sy', outs', rfl, hr, hsub, hY', -⟩ := sx_ix_ok hr hY hvi
  simp only [sx_rdK_eq, sx_fo_eq, sx_wrK_eq] at hr
  obtain ⟨hk2, hr⟩ := sx_if_ok hr
  obtain ⟨k1, k2⟩ := sx_and_ok hk2
  have k1 : (sx_rd h (t / 8)).1 % 256 = 100 := sx_beq k1
  have k2 : x < (sx_rd h (t / 8)).1 / 256 := sx_blt k2
  obtain ⟨hty, hr⟩ := sx_if_ok hr
  obtain ⟨h72, hr⟩ := sx_if_ok hr
  have h72 : v < 2 ^ 72 := sx_blt h72
  obtain ⟨a, ha, rfl⟩ := hva.t2 (sx_beq c1)
  obtain ⟨ws, e, hP, hD, g3, g4, g5, g6, he, hE⟩ := hG.at ha
  have hE0 := hE
  have hty : Nat.ble (sx_tg v) 1 = true := hty
  obtain ⟨z, rfl⟩ := hvv.i (sx_ble hty)
  have hr : ih d mi (sx_mt mi).1 lst false (Nat.succ pc) L r3 (sx_wr h (t / 8) ((sx_rd h (t / 8)).1, sx_set (sx_rd h (t / 8)).2 x v)) n sy' cs ss = some outs' := hr
  rcases hE with ⟨ci, fs, -, e2, ⟨C, e3, -⟩, -⟩ | ⟨cA, f, rfl, e2, e3, e4⟩ | ⟨cA, f, -, e2, -⟩ | ⟨cA, f, -, e2, -⟩
  · have := (List.getElem?_eq_some_iff.mp e3).1; rw [sx_fl_len.2] at this; omega
  · obtain ⟨i1, i2⟩ := sx_in_ok k2 e3.2
    refine va_iast hx hb (sx_KA hT e3.1) hP hD hS (t / 8) 0 he rfl i1 (sx_dc_ok hk) (fun H1 locs1 hP1 hD1 hS1 => ?_)
    rw [i2] at hP1 hD1
    exact sx_go IH hr hC ⟨hLc, hSt2, hY', sx_G.set g3 g4 g5 g6 he hP1 hD1 (sx_E.iput hE0 hvv h72), hS1, hxs, hrm⟩ hL List.prefix_rfl List.prefix_rfl hsub hQ
  · omega
  · omega
theorem sx_sLast (IH : sx_Ok N ih) (hC : sx_Cx p e R s m meth c D K b N xs A mi d q) (hA : sx_At R s c D K b N xs A ad rs cells slots locs L S h n sy cs ss ls st H) (hL : sx_Ls p l e R s m args below meth c D K b N xs A Q ad rs lst) (hQ : ∀ o ∈ outs, ∀ t, sx_En R s below D K b A ad rs o t → Q t)
    (hk : sx_dc q pc .lastore 1 = true) (hr : sx_oAst ih d mi (sx_mt mi).1 lst pc L S h n sy cs ss 101 = some outs) : W p l e R s m args below meth c H locs cells slots Q (F0 m pc ls st) := by
  obtain ⟨-, hx, -, hb, hml, -, -, -, hown, -, hT, -⟩ := id hC
  obtain ⟨hLc, hSt, hrest⟩ := id hA
  unfold sx_oAst at hr
  cases S with
  | nil => cases hr
  | cons v r =>
  cases r with
  | nil => cases hr
  | cons u r2 =>
  cases r2 with
  | nil => cases hr
  | cons t r3 =>
  obtain ⟨xv, st0, rfl, hvv, hSt0⟩ := hSt.cons
  obtain ⟨xi, st1, rfl, hvi, hSt1⟩ := hSt0.cons
  obtain ⟨xa, st2, rfl, hva, hSt2⟩ := hSt1.cons
  rw [sx_p1_cons, sx_p1_cons, sx_p1_cons] at hr
  obtain ⟨hY, hG, hS, hxs, hrm⟩ := id hrest
  obtain ⟨hc, hr⟩ := sx_if_ok hr
  obtain ⟨c1, -⟩ := sx_and_ok hc
  obtain ⟨x, sy', outs', rfl, hr, hsub, hY', -⟩ := sx_ix_ok hr hY hvi
  simp only [sx_rdK_eq, sx_fo_eq, sx_wrK_eq] at hr
  obtain ⟨hk2, hr⟩ := sx_if_ok hr
  obtain ⟨k1, k2⟩ := sx_and_ok hk2
  have k1 : (sx_rd h (t / 8)).1 % 256 = 101 := sx_beq k1
  have k2 : x < (sx_rd h (t / 8)).1 / 256 := sx_blt k2
  obtain ⟨hty, hr⟩ := sx_if_ok hr
  obtain ⟨h72, hr⟩ := sx_if_ok hr
  have h72 : v < 2 ^ 72 := sx_blt h72
  obtain ⟨a, ha, rfl⟩ := hva.t2 (sx_beq c1)
  obtain ⟨ws, e, hP, hD, g3, g4, g5, g6, he, hE⟩ := hG.at ha
  have hE0 := hE
  have hty : Nat.beq (sx_tg v) 4 = true := hty
  have ev := hvv.t4 (sx_beq hty)
  subst ev
  have hr : ih d mi (sx_mt mi).1 lst false (Nat.succ pc) L r3 (sx_wr h (t / 8) ((sx_rd h (t / 8)).1, sx_set (sx_rd h (t / 8)).2 x (v - 4))) n sy' cs ss = some outs' := hr
  rcases hE with ⟨ci, fs, -, e2, ⟨C, e3, -⟩, -⟩ | ⟨cA, f, -, e2, -⟩ | ⟨cA, f, rfl, e2, e3, e4⟩ | ⟨cA, f, -, e2, -⟩
  · have := (List.getElem?_eq_some_iff.mp e3).1; rw [sx_fl_len.2] at this; omega
  · omega
  · obtain ⟨i1, i2⟩ := sx_in_ok k2 e3.2
    refine va_last hx hb (sx_KA hT e3.1) hP hD hS (t / 8) 0 he rfl i1 (sx_dc_ok hk) (fun H1 locs1 hP1 hD1 hS1 => ?_)
    rw [i2] at hP1 hD1
    exact sx_go IH hr hC ⟨hLc, hSt2, hY', sx_G.set g3 g4 g5 g6 he hP1 hD1 (sx_E.lput hE0 (sx_beq hty) h72), hS1, hxs, hrm⟩ hL List.prefix_rfl List.prefix_rfl hsub hQ
  · omega
theorem sx_sAast (IH : sx_Ok N ih) (hC : sx_Cx p e R s m meth c D K b N xs A mi d q) (hA : sx_At R s c D K b N xs A ad rs cells slots locs L S h n sy cs ss ls st H) (hL : sx_Ls p l e R s m args below meth c D K b N xs A Q ad rs lst) (hQ : ∀ o ∈ outs, ∀ t, sx_En R s below D K b A ad rs o t → Q t)
    (hk : sx_dc q pc .aastore 1 = true) (hr : sx_oAst ih d mi (sx_mt mi).1 lst pc L S h n sy cs ss 102 = some outs) : W p l e R s m args below meth c H locs cells slots Q (F0 m pc ls st) := by
  obtain ⟨-, hx, -, hb, hml, -, -, -, hown, -, hT, -⟩ := id hC
  obtain ⟨hLc, hSt, hrest⟩ := id hA
  unfold sx_oAst at hr
  cases S with
  | nil => cases hr
  | cons v r =>
  cases r with
  | nil => cases hr
  | cons u r2 =>
  cases r2 with
  | nil => cases hr
  | cons t r3 =>
  obtain ⟨xv, st0, rfl, hvv, hSt0⟩ := hSt.cons
  obtain ⟨xi, st1, rfl, hvi, hSt1⟩ := hSt0.cons
  obtain ⟨xa, st2, rfl, hva, hSt2⟩ := hSt1.cons
  rw [sx_p1_cons, sx_p1_cons, sx_p1_cons] at hr
  obtain ⟨hY, hG, hS, hxs, hrm⟩ := id hrest
  obtain ⟨hc, hr⟩ := sx_if_ok hr
  obtain ⟨c1, -⟩ := sx_and_ok hc
  obtain ⟨x, sy', outs', rfl, hr, hsub, hY', -⟩ := sx_ix_ok hr hY hvi
  simp only [sx_rdK_eq, sx_fo_eq, sx_wrK_eq] at hr
  obtain ⟨hk2, hr⟩ := sx_if_ok hr
  obtain ⟨k1, k2⟩ := sx_and_ok hk2
  have k1 : (sx_rd h (t / 8)).1 % 256 = 102 := sx_beq k1
  have k2 : x < (sx_rd h (t / 8)).1 / 256 := sx_blt k2
  obtain ⟨hty, hr⟩ := sx_if_ok hr
  obtain ⟨h72, hr⟩ := sx_if_ok hr
  have h72 : v < 2 ^ 72 := sx_blt h72
  obtain ⟨a, ha, rfl⟩ := hva.t2 (sx_beq c1)
  obtain ⟨ws, e, hP, hD, g3, g4, g5, g6, he, hE⟩ := hG.at ha
  have hE0 := hE
  have hty : sx_and (Nat.beq (sx_tg v) 2) (sx_and (Nat.blt (sx_pl v) n) (Nat.beq (Nat.mod (sx_rd h (sx_pl v)).1 256) sx_tab)) = true := hty
  obtain ⟨t1, hty⟩ := sx_and_ok hty
  obtain ⟨-, t2⟩ := sx_and_ok hty
  have t2 : (sx_rd h (v / 8)).1 % 256 = 3 := sx_beq t2
  obtain ⟨av, hav, rfl⟩ := hvv.t2 (sx_beq t1)
  obtain ⟨ev, hev, hEv⟩ : ∃ ev, ws[v / 8]? = some (av, ev) ∧ sx_E K b ad rs (sx_rd h (v / 8)) ev := by
    rw [← g3, List.getElem?_map] at hav
    cases hw : ws[v / 8]? with
    | none => rw [hw] at hav; cases hav
    | some qq =>
      rw [hw] at hav
      obtain ⟨qa, qe⟩ := qq
      have : qa = av := by simpa using hav
      subst this
      exact ⟨qe, rfl, g6 _ _ hw⟩
  have hr : ih d mi (sx_mt mi).1 lst false (Nat.succ pc) L r3 (sx_wr h (t / 8) ((sx_rd h (t / 8)).1, sx_set (sx_rd h (t / 8)).2 x v)) n sy' cs ss = some outs' := hr
  rcases hE with ⟨ci, fs, -, e2, ⟨C, e3, -⟩, -⟩ | ⟨cA, f, -, e2, -⟩ | ⟨cA, f, -, e2, -⟩ | ⟨cA, f, rfl, e2, e3, e4⟩
  · have := (List.getElem?_eq_some_iff.mp e3).1; rw [sx_fl_len.2] at this; omega
  · omega
  · omega
  · obtain ⟨i1, i2⟩ := sx_in_ok k2 e3.2
    rcases hEv with ⟨ci, fs, rfl, u2, -⟩ | ⟨cA, f, -, u2, -⟩ | ⟨cA, f, -, u2, -⟩ | ⟨cA, f, -, u2, -⟩
    · rw [t2] at u2
      subst u2
      refine va_astq hx hb (sx_KA hT e3.1) hP hD hS (t / 8) 0 (v / 8) 3 (r := ("AbsentRings$Table", sx_T3, 11)) he rfl hev rfl i1 (sx_dc_ok hk) (fun H1 locs1 hP1 hD1 hS1 => ?_)
      rw [i2] at hP1 hD1
      exact sx_go IH hr hC ⟨hLc, hSt2, hY', sx_G.set g3 g4 g5 g6 he hP1 hD1 (sx_E.qput hE0 (sx_beq t1) hav h72), hS1, hxs, hrm⟩ hL List.prefix_rfl List.prefix_rfl hsub hQ
    · omega
    · omega
    · omega
end SXArr
