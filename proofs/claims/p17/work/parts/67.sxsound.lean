/-! sx: the executor is right -/
section SXSound
variable {N : Nat} {ih : sx_ih} {w d mi pc n cs ss : Nat} {lst : List sx_I} {L S : List Nat} {h : sx_H} {sy : sx_Y} {outs : List sx_O}
variable {p : Program} {l : Launch} {e : Env} {R : Room} {s : State} {m : MethodId} {args : Array Value} {below : List Frame} {meth : Method} {c : Code} {D : va_G} {K : ClassId → FieldType → Prop} {b : Nat → Nat} {xs : Nat → Int32} {A : Nat → Prop} {q : sx_M}
variable {ad : List Nat} {rs : List Int32} {ls : Array Slot} {st : List Value} {H : Heap} {locs : List Loc} {cells slots : Nat} {Q : State → Prop}
theorem sx_wd1 (h : sx_wd q pc w = true) (ho : sx_op w = 1) : sx_k1 q pc w = true := by
  unfold sx_wd at h
  dsimp only at h
  rw [ho] at h
  exact h
theorem sx_wd2 (h : sx_wd q pc w = true) (ho : sx_op w = 2) : sx_k2 q pc w = true := by
  unfold sx_wd at h
  dsimp only at h
  rw [ho] at h
  exact h
theorem sx_wd3 (h : sx_wd q pc w = true) (ho : sx_op w = 3) : sx_k3 q pc w = true := by
  unfold sx_wd at h
  dsimp only at h
  rw [ho] at h
  exact h
theorem sx_wd4 (h : sx_wd q pc w = true) (ho : sx_op w = 4) : sx_k4 q pc w = true := by
  unfold sx_wd at h
  dsimp only at h
  rw [ho] at h
  exact h
theorem sx_wd5 (h : sx_wd q pc w = true) (ho : sx_op w = 5) : sx_k5 q pc w = true := by
  unfold sx_wd at h
  dsimp only at h
  rw [ho] at h
  exact h
theorem sx_wd6 (h : sx_wd q pc w = true) (ho : sx_op w = 6) : sx_k6 q pc w = true := by
  unfold sx_wd at h
  dsimp only at h
  rw [ho] at h
  exact h
theorem sx_wd7 (h : sx_wd q pc w = true) (ho : sx_op w = 7) : sx_k7 q pc w = true := by
  unfold sx_wd at h
  dsimp only at h
  rw [ho] at h
  exact h
theorem sx_wd8 (h : sx_wd q pc w = true) (ho : sx_op w = 8) : sx_k8 q pc w = true := by
  unfold sx_wd at h
  dsimp only at h
  rw [ho] at h
  exact h
theorem sx_wd9 (h : sx_wd q pc w = true) (ho : sx_op w = 9) : sx_k9 q pc w = true := by
  unfold sx_wd at h
  dsimp only at h
  rw [ho] at h
  exact h
theorem sx_wd10 (h : sx_wd q pc w = true) (ho : sx_op w = 10) : sx_k10 q pc w = true := by
  unfold sx_wd at h
  dsimp only at h
  rw [ho] at h
  exact h
theorem sx_wd11 (h : sx_wd q pc w = true) (ho : sx_op w = 11) : sx_dc q pc .iaload 1 = true := by
  unfold sx_wd at h
  dsimp only at h
  rw [ho] at h
  exact h
theorem sx_wd12 (h : sx_wd q pc w = true) (ho : sx_op w = 12) : sx_dc q pc .iastore 1 = true := by
  unfold sx_wd at h
  dsimp only at h
  rw [ho] at h
  exact h
theorem sx_wd13 (h : sx_wd q pc w = true) (ho : sx_op w = 13) : sx_dc q pc .laload 1 = true := by
  unfold sx_wd at h
  dsimp only at h
  rw [ho] at h
  exact h
theorem sx_wd14 (h : sx_wd q pc w = true) (ho : sx_op w = 14) : sx_dc q pc .lastore 1 = true := by
  unfold sx_wd at h
  dsimp only at h
  rw [ho] at h
  exact h
theorem sx_wd15 (h : sx_wd q pc w = true) (ho : sx_op w = 15) : sx_dc q pc .aaload 1 = true := by
  unfold sx_wd at h
  dsimp only at h
  rw [ho] at h
  exact h
theorem sx_wd16 (h : sx_wd q pc w = true) (ho : sx_op w = 16) : sx_dc q pc .aastore 1 = true := by
  unfold sx_wd at h
  dsimp only at h
  rw [ho] at h
  exact h
theorem sx_wd17 (h : sx_wd q pc w = true) (ho : sx_op w = 17) : sx_dc q pc .arraylength 1 = true := by
  unfold sx_wd at h
  dsimp only at h
  rw [ho] at h
  exact h
theorem sx_wd18 (h : sx_wd q pc w = true) (ho : sx_op w = 18) : sx_k18 q pc w = true := by
  unfold sx_wd at h
  dsimp only at h
  rw [ho] at h
  exact h
theorem sx_wd19 (h : sx_wd q pc w = true) (ho : sx_op w = 19) : sx_k19 q pc w = true := by
  unfold sx_wd at h
  dsimp only at h
  rw [ho] at h
  exact h
theorem sx_wd20 (h : sx_wd q pc w = true) (ho : sx_op w = 20) : sx_k20 q pc w = true := by
  unfold sx_wd at h
  dsimp only at h
  rw [ho] at h
  exact h
theorem sx_wd21 (h : sx_wd q pc w = true) (ho : sx_op w = 21) : sx_k21 q pc w = true := by
  unfold sx_wd at h
  dsimp only at h
  rw [ho] at h
  exact h
theorem sx_wd22 (h : sx_wd q pc w = true) (ho : sx_op w = 22) : sx_k22 q pc w = true := by
  unfold sx_wd at h
  dsimp only at h
  rw [ho] at h
  exact h
theorem sx_wd23 (h : sx_wd q pc w = true) (ho : sx_op w = 23) : sx_k23 q pc w = true := by
  unfold sx_wd at h
  dsimp only at h
  rw [ho] at h
  exact h
theorem sx_wd24 (h : sx_wd q pc w = true) (ho : sx_op w = 24) : sx_k24 q pc w = true := by
  unfold sx_wd at h
  dsimp only at h
  rw [ho] at h
  exact h
theorem sx_wd25 (h : sx_wd q pc w = true) (ho : sx_op w = 25) : sx_k25 q pc w = true := by
  unfold sx_wd at h
  dsimp only at h
  rw [ho] at h
  exact h
theorem sx_wd26 (h : sx_wd q pc w = true) (ho : sx_op w = 26) : sx_k26 q pc w = true := by
  unfold sx_wd at h
  dsimp only at h
  rw [ho] at h
  exact h
theorem sx_wd27 (h : sx_wd q pc w = true) (ho : sx_op w = 27) : sx_k27 q pc = true := by
  unfold sx_wd at h
  dsimp only at h
  rw [ho] at h
  exact h
theorem sx_wd28 (h : sx_wd q pc w = true) (ho : sx_op w = 28) : sx_k28 q pc w = true := by
  unfold sx_wd at h
  dsimp only at h
  rw [ho] at h
  exact h
theorem sx_wd29 (h : sx_wd q pc w = true) (ho : sx_op w = 29) : sx_dc q pc .dup 1 = true := by
  unfold sx_wd at h
  dsimp only at h
  rw [ho] at h
  exact h
theorem sx_wd30 (h : sx_wd q pc w = true) (ho : sx_op w = 30) : sx_dc q pc .dup2 1 = true := by
  unfold sx_wd at h
  dsimp only at h
  rw [ho] at h
  exact h
theorem sx_wd31 (h : sx_wd q pc w = true) (ho : sx_op w = 31) : sx_dc q pc .pop 1 = true := by
  unfold sx_wd at h
  dsimp only at h
  rw [ho] at h
  exact h
theorem sx_wd32 (h : sx_wd q pc w = true) (ho : sx_op w = 32) : sx_k32 q pc w = true := by
  unfold sx_wd at h
  dsimp only at h
  rw [ho] at h
  exact h
theorem sx_wd35 (h : sx_wd q pc w = true) (ho : sx_op w = 35) : sx_k35 q pc w = true := by
  unfold sx_wd at h
  dsimp only at h
  rw [ho] at h
  exact h
theorem sx_wd37 (h : sx_wd q pc w = true) (ho : sx_op w = 37) : sx_k37 q pc w = true := by
  unfold sx_wd at h
  dsimp only at h
  rw [ho] at h
  exact h
theorem sx_wd33 (h : sx_wd q pc w = true) (ho : sx_op w = 33) : sx_k33 q pc w = true := by
  unfold sx_wd at h
  dsimp only at h
  rw [ho] at h
  exact h
theorem sx_wd34 (h : sx_wd q pc w = true) (ho : sx_op w = 34) : sx_k34 q pc w = true := by
  unfold sx_wd at h
  dsimp only at h
  rw [ho] at h
  exact h
theorem sx_wd36 (h : sx_wd q pc w = true) (ho : sx_op w = 36) : sx_dc q pc .baload 1 = true := by
  unfold sx_wd at h
  dsimp only at h
  rw [ho] at h
  exact h
theorem sx_wd38 (h : sx_wd q pc w = true) (ho : sx_op w = 38) : sx_k38 q pc w = true := by
  unfold sx_wd at h
  dsimp only at h
  rw [ho] at h
  exact h
theorem sx_wd39 (h : sx_wd q pc w = true) (ho : sx_op w = 39) : sx_k39 q pc w = true := by
  unfold sx_wd at h
  dsimp only at h
  rw [ho] at h
  exact h
theorem sx_wd40 (h : sx_wd q pc w = true) (ho : sx_op w = 40) : sx_k40 q pc w = true := by
  unfold sx_wd at h
  dsimp only at h
  rw [ho] at h
  exact h
theorem sx_wd41 (h : sx_wd q pc w = true) (ho : sx_op w = 41) : sx_k41 q pc w = true := by
  unfold sx_wd at h
  dsimp only at h
  rw [ho] at h
  exact h
theorem sx_wd42 (h : sx_wd q pc w = true) (ho : sx_op w = 42) : sx_dc q pc .i2c 1 = true := by
  unfold sx_wd at h
  dsimp only at h
  rw [ho] at h
  exact h
theorem sx_wd43 (h : sx_wd q pc w = true) (ho : sx_op w = 43) : sx_k43 q pc w = true := by
  unfold sx_wd at h
  dsimp only at h
  rw [ho] at h
  exact h
theorem sx_hid0 (hM : sx_Mok mi q) (h0 : sx_ihd (sx_mt mi).2 = 0) : q.2.2.2.2 = [] := by
  have h := hM.2.2.2.2.1
  unfold sx_hB at h
  rw [if_pos h0] at h
  exact of_decide_eq_true h
theorem sx_sBody (IH : sx_Ok N ih) (hC : sx_Cx p e R s m meth c D K b N xs A mi d q) (hA : sx_At R s c D K b N xs A ad rs cells slots locs L S h n sy cs ss ls st H) (hL : sx_Ls p l e R s m args below meth c D K b N xs A Q ad rs lst) (hQ : ∀ o ∈ outs, ∀ t, sx_En R s below D K b A ad rs o t → Q t)
    (hMO : sx_MO) (hM : sx_Mok mi q) (hN31 : N < 2 ^ 31) (hw : sx_op w ≠ 0 → sx_wd q pc w = true) (hr : sx_body ih N w d mi (sx_mt mi).1 lst pc L S h n sy cs ss = some outs) : W p l e R s m args below meth c H locs cells slots Q (F0 m pc ls st) := by
  unfold sx_body at hr
  rw [sx_fo_eq] at hr
  cases h2 : Nat.beq (sx_op w) 2 with
  | true =>
    rw [h2, sx_if_t] at hr
    have hw := hw (by rw [sx_beq h2]; decide)
    have hk := sx_wd2 hw (sx_beq h2)
    exact sx_sLoad IH hC hA hL hQ hk hr
  | false =>
  rw [h2, sx_if_f] at hr
  cases h1 : Nat.beq (sx_op w) 1 with
  | true =>
    rw [h1, sx_if_t] at hr
    have hw := hw (by rw [sx_beq h1]; decide)
    have hk := sx_wd1 hw (sx_beq h1)
    exact sx_sConst IH hC hA hL hQ hk hr
  | false =>
  rw [h1, sx_if_f] at hr
  cases h9 : Nat.beq (sx_op w) 9 with
  | true =>
    rw [h9, sx_if_t] at hr
    have hw := hw (by rw [sx_beq h9]; decide)
    have hk := sx_wd9 hw (sx_beq h9)
    exact sx_sGet IH hC hA hL hQ hk hr
  | false =>
  rw [h9, sx_if_f] at hr
  cases h7 : Nat.beq (sx_op w) 7 with
  | true =>
    rw [h7, sx_if_t] at hr
    have hw := hw (by rw [sx_beq h7]; decide)
    have hk := sx_wd7 hw (sx_beq h7)
    exact sx_sIcmp IH hC hA hL hQ hk hr
  | false =>
  rw [h7, sx_if_f] at hr
  cases h6 : Nat.beq (sx_op w) 6 with
  | true =>
    rw [h6, sx_if_t] at hr
    have hw := hw (by rw [sx_beq h6]; decide)
    have hk := sx_wd6 hw (sx_beq h6)
    exact sx_sIf IH hC hA hL hQ hk hr
  | false =>
  rw [h6, sx_if_f] at hr
  cases h11 : Nat.beq (sx_op w) 11 with
  | true =>
    rw [h11, sx_if_t] at hr
    have hw := hw (by rw [sx_beq h11]; decide)
    have hk := sx_wd11 hw (sx_beq h11)
    exact sx_sIaldX IH hC hA hL hQ hN31 hk hr
  | false =>
  rw [h11, sx_if_f] at hr
  cases h8 : Nat.beq (sx_op w) 8 with
  | true =>
    rw [h8, sx_if_t] at hr
    have hw := hw (by rw [sx_beq h8]; decide)
    have hk := sx_wd8 hw (sx_beq h8)
    exact sx_sGoto IH hC hA hL hQ hk hr
  | false =>
  rw [h8, sx_if_f] at hr
  cases h5 : Nat.beq (sx_op w) 5 with
  | true =>
    rw [h5, sx_if_t] at hr
    have hw := hw (by rw [sx_beq h5]; decide)
    have hk := sx_wd5 hw (sx_beq h5)
    exact sx_sIinc IH hC hA hL hQ hk hr
  | false =>
  rw [h5, sx_if_f] at hr
  cases h3 : Nat.beq (sx_op w) 3 with
  | true =>
    rw [h3, sx_if_t] at hr
    have hw := hw (by rw [sx_beq h3]; decide)
    have hk := sx_wd3 hw (sx_beq h3)
    exact sx_sStore IH hC hA hL hQ hk hr
  | false =>
  rw [h3, sx_if_f] at hr
  cases h26 : Nat.beq (sx_op w) 26 with
  | true =>
    rw [h26, sx_if_t] at hr
    have hw := hw (by rw [sx_beq h26]; decide)
    have hk := sx_wd26 hw (sx_beq h26)
    exact sx_sRet IH hC hA hL hQ hk hr
  | false =>
  rw [h26, sx_if_f] at hr
  cases h21 : Nat.beq (sx_op w) 21 with
  | true =>
    rw [h21, sx_if_t] at hr
    have hw := hw (by rw [sx_beq h21]; decide)
    have hk := sx_wd21 hw (sx_beq h21)
    exact sx_sInvV IH hC hA hL hQ hMO hM hk hr
  | false =>
  rw [h21, sx_if_f] at hr
  cases h4 : Nat.beq (sx_op w) 4 with
  | true =>
    rw [h4, sx_if_t] at hr
    have hw := hw (by rw [sx_beq h4]; decide)
    have hk := sx_wd4 hw (sx_beq h4)
    exact sx_sBin IH hC hA hL hQ hk hr
  | false =>
  rw [h4, sx_if_f] at hr
  cases h12 : Nat.beq (sx_op w) 12 with
  | true =>
    rw [h12, sx_if_t] at hr
    have hw := hw (by rw [sx_beq h12]; decide)
    have hk := sx_wd12 hw (sx_beq h12)
    exact sx_sIast IH hC hA hL hQ hk hr
  | false =>
  rw [h12, sx_if_f] at hr
  cases h22 : Nat.beq (sx_op w) 22 with
  | true =>
    rw [h22, sx_if_t] at hr
    have hw := hw (by rw [sx_beq h22]; decide)
    have hk := sx_wd22 hw (sx_beq h22)
    exact sx_sInvS IH hC hA hL hQ hMO hM hk hr
  | false =>
  rw [h22, sx_if_f] at hr
  cases h27 : Nat.beq (sx_op w) 27 with
  | true =>
    rw [h27, sx_if_t] at hr
    have hw := hw (by rw [sx_beq h27]; decide)
    have hk := sx_wd27 hw (sx_beq h27)
    exact sx_sVret IH hC hA hL hQ hk hr
  | false =>
  rw [h27, sx_if_f] at hr
  cases h10 : Nat.beq (sx_op w) 10 with
  | true =>
    rw [h10, sx_if_t] at hr
    have hw := hw (by rw [sx_beq h10]; decide)
    have hk := sx_wd10 hw (sx_beq h10)
    exact sx_sPut IH hC hA hL hQ hk hr
  | false =>
  rw [h10, sx_if_f] at hr
  cases h29 : Nat.beq (sx_op w) 29 with
  | true =>
    rw [h29, sx_if_t] at hr
    have hw := hw (by rw [sx_beq h29]; decide)
    have hk := sx_wd29 hw (sx_beq h29)
    exact sx_sDup IH hC hA hL hQ hk hr
  | false =>
  rw [h29, sx_if_f] at hr
  cases h30 : Nat.beq (sx_op w) 30 with
  | true =>
    rw [h30, sx_if_t] at hr
    have hw := hw (by rw [sx_beq h30]; decide)
    have hk := sx_wd30 hw (sx_beq h30)
    exact sx_sDup2 IH hC hA hL hQ hk hr
  | false =>
  rw [h30, sx_if_f] at hr
  cases h31 : Nat.beq (sx_op w) 31 with
  | true =>
    rw [h31, sx_if_t] at hr
    have hw := hw (by rw [sx_beq h31]; decide)
    have hk := sx_wd31 hw (sx_beq h31)
    exact sx_sPop IH hC hA hL hQ hk hr
  | false =>
  rw [h31, sx_if_f] at hr
  cases h13 : Nat.beq (sx_op w) 13 with
  | true =>
    rw [h13, sx_if_t] at hr
    have hw := hw (by rw [sx_beq h13]; decide)
    have hk := sx_wd13 hw (sx_beq h13)
    exact sx_sLald IH hC hA hL hQ hk hr
  | false =>
  rw [h13, sx_if_f] at hr
  cases h14 : Nat.beq (sx_op w) 14 with
  | true =>
    rw [h14, sx_if_t] at hr
    have hw := hw (by rw [sx_beq h14]; decide)
    have hk := sx_wd14 hw (sx_beq h14)
    exact sx_sLast IH hC hA hL hQ hk hr
  | false =>
  rw [h14, sx_if_f] at hr
  cases h15 : Nat.beq (sx_op w) 15 with
  | true =>
    rw [h15, sx_if_t] at hr
    have hw := hw (by rw [sx_beq h15]; decide)
    have hk := sx_wd15 hw (sx_beq h15)
    exact sx_sAald IH hC hA hL hQ hk hr
  | false =>
  rw [h15, sx_if_f] at hr
  cases h16 : Nat.beq (sx_op w) 16 with
  | true =>
    rw [h16, sx_if_t] at hr
    have hw := hw (by rw [sx_beq h16]; decide)
    have hk := sx_wd16 hw (sx_beq h16)
    exact sx_sAast IH hC hA hL hQ hk hr
  | false =>
  rw [h16, sx_if_f] at hr
  cases h17 : Nat.beq (sx_op w) 17 with
  | true =>
    rw [h17, sx_if_t] at hr
    have hw := hw (by rw [sx_beq h17]; decide)
    have hk := sx_wd17 hw (sx_beq h17)
    exact sx_sAlenX IH hC hA hL hQ hN31 hk hr
  | false =>
  rw [h17, sx_if_f] at hr
  cases h18 : Nat.beq (sx_op w) 18 with
  | true =>
    rw [h18, sx_if_t] at hr
    have hw := hw (by rw [sx_beq h18]; decide)
    have hk := sx_wd18 hw (sx_beq h18)
    exact sx_sNew IH hC hA hL hQ hk hr
  | false =>
  rw [h18, sx_if_f] at hr
  cases h19 : Nat.beq (sx_op w) 19 with
  | true =>
    rw [h19, sx_if_t] at hr
    have hw := hw (by rw [sx_beq h19]; decide)
    have hk := sx_wd19 hw (sx_beq h19)
    unfold sx_k19 at hk
    by_cases ha : sx_wa w = 0
    · rw [if_pos ha] at hk
      rw [ha] at hr
      exact sx_sNewI IH hC hA hL hQ hk hr
    · rw [if_neg ha] at hk
      simp only [Bool.and_eq_true, decide_eq_true_eq] at hk
      rw [hk.1] at hr
      exact sx_sNewL IH hC hA hL hQ hk.2 hr
  | false =>
  rw [h19, sx_if_f] at hr
  cases h20 : Nat.beq (sx_op w) 20 with
  | true =>
    rw [h20, sx_if_t] at hr
    have hw := hw (by rw [sx_beq h20]; decide)
    have hk := sx_wd20 hw (sx_beq h20)
    exact sx_sNewQ IH hC hA hL hQ hk hr
  | false =>
  rw [h20, sx_if_f] at hr
  cases h23 : Nat.beq (sx_op w) 23 with
  | true =>
    rw [h23, sx_if_t] at hr
    have hw := hw (by rw [sx_beq h23]; decide)
    have hk := sx_wd23 hw (sx_beq h23)
    exact sx_sInvI IH hC hA hL hQ hMO hM hk hr
  | false =>
  rw [h23, sx_if_f] at hr
  cases h24 : Nat.beq (sx_op w) 24 with
  | true =>
    rw [h24, sx_if_t] at hr
    have hw := hw (by rw [sx_beq h24]; decide)
    have hk := sx_wd24 hw (sx_beq h24)
    exact sx_sObj IH hC hA hL hQ hk hr
  | false =>
  rw [h24, sx_if_f] at hr
  cases h25 : Nat.beq (sx_op w) 25 with
  | true =>
    rw [h25, sx_if_t] at hr
    have hw := hw (by rw [sx_beq h25]; decide)
    have hk := sx_wd25 hw (sx_beq h25)
    exact sx_sCpy IH hC hA hL hQ hk hr
  | false =>
  rw [h25, sx_if_f] at hr
  cases h28 : Nat.beq (sx_op w) 28 with
  | true =>
    rw [h28, sx_if_t] at hr
    have hw := hw (by rw [sx_beq h28]; decide)
    have hk := sx_wd28 hw (sx_beq h28)
    exact sx_sThrow IH hC hA hL hQ (fun h0 => sx_hid0 hM h0) hk hr
  | false =>
  rw [h28, sx_if_f] at hr
  cases h32 : Nat.beq (sx_op w) 32 with
  | true =>
    rw [h32, sx_if_t] at hr
    have hw := hw (by rw [sx_beq h32]; decide)
    have hk := sx_wd32 hw (sx_beq h32)
    exact sx_sUn IH hC hA hL hQ hk hr
  | false =>
  rw [h32, sx_if_f] at hr
  cases h35 : Nat.beq (sx_op w) 35 with
  | true =>
    rw [h35, sx_if_t] at hr
    have hw := hw (by rw [sx_beq h35]; decide)
    have hk := sx_wd35 hw (sx_beq h35)
    exact sx_sLb IH hC hA hL hQ hk hr
  | false =>
  rw [h35, sx_if_f] at hr
  cases h37 : Nat.beq (sx_op w) 37 with
  | true =>
    rw [h37, sx_if_t] at hr
    have hw := hw (by rw [sx_beq h37]; decide)
    have hk := sx_wd37 hw (sx_beq h37)
    exact sx_sSw IH hC hA hL hQ hk hr
  | false =>
  rw [h37, sx_if_f] at hr
  cases h39 : Nat.beq (sx_op w) 39 with
  | true =>
    rw [h39, sx_if_t] at hr
    have hw := hw (by rw [sx_beq h39]; decide)
    have hk := sx_wd39 hw (sx_beq h39)
    exact sx_sInvX IH hC hA hL hQ hMO hM hk hr
  | false =>
  rw [h39, sx_if_f] at hr
  cases h38 : Nat.beq (sx_op w) 38 with
  | true =>
    rw [h38, sx_if_t] at hr
    have hw := hw (by rw [sx_beq h38]; decide)
    have hk := sx_wd38 hw (sx_beq h38)
    exact sx_sSget IH hC hA hL hQ hk hr
  | false =>
  rw [h38, sx_if_f] at hr
  cases h33 : Nat.beq (sx_op w) 33 with
  | true =>
    rw [h33, sx_if_t] at hr
    have hw := hw (by rw [sx_beq h33]; decide)
    have hk := sx_wd33 hw (sx_beq h33)
    exact sx_sLdcS IH hC hA hL hQ hk hr
  | false =>
  rw [h33, sx_if_f] at hr
  cases h34 : Nat.beq (sx_op w) 34 with
  | true =>
    rw [h34, sx_if_t] at hr
    have hw := hw (by rw [sx_beq h34]; decide)
    have hk := sx_wd34 hw (sx_beq h34)
    exact sx_sGets IH hC hA hL hQ hk hr
  | false =>
  rw [h34, sx_if_f] at hr
  cases h36 : Nat.beq (sx_op w) 36 with
  | true =>
    rw [h36, sx_if_t] at hr
    have hw := hw (by rw [sx_beq h36]; decide)
    have hk := sx_wd36 hw (sx_beq h36)
    exact sx_sBald IH hC hA hL hQ hk hr
  | false =>
  rw [h36, sx_if_f] at hr
  cases h42 : Nat.beq (sx_op w) 42 with
  | true =>
    rw [h42, sx_if_t] at hr
    have hw := hw (by rw [sx_beq h42]; decide)
    have hk := sx_wd42 hw (sx_beq h42)
    exact sx_sI2c IH hC hA hL hQ hk hr
  | false =>
  rw [h42, sx_if_f] at hr
  cases h43 : Nat.beq (sx_op w) 43 with
  | true =>
    rw [h43, sx_if_t] at hr
    have hw := hw (by rw [sx_beq h43]; decide)
    have hk := sx_wd43 hw (sx_beq h43)
    exact sx_sRetN IH hC hA hL hQ hk hr
  | false =>
  rw [h43, sx_if_f] at hr
  cases h40 : Nat.beq (sx_op w) 40 with
  | true =>
    rw [h40, sx_if_t] at hr
    have hw := hw (by rw [sx_beq h40]; decide)
    have hk := sx_wd40 hw (sx_beq h40)
    exact sx_sInvW IH hC hA hL hQ hMO hM hk hr
  | false =>
  rw [h40, sx_if_f] at hr
  cases h41 : Nat.beq (sx_op w) 41 with
  | true =>
    rw [h41, sx_if_t] at hr
    have hw := hw (by rw [sx_beq h41]; decide)
    have hk := sx_wd41 hw (sx_beq h41)
    exact sx_sLcon IH hC hA hL hQ hk hr
  | false =>
  rw [h41, sx_if_f] at hr
  cases hr
theorem sx_body0 : sx_body ih N 0 d mi 0 lst pc L S h n sy cs ss = none := rfl
theorem sx_step_ok (hMO : sx_MO) (hN31 : N < 2 ^ 31) (IH : sx_Ok N ih) : sx_Ok N (fun d mi cd lst fl pc L S h n sy cs ss => sx_step ih N d mi cd lst pc L S h n sy cs ss fl) := by
  intro d mi lst fl pc L S h n sy cs ss outs hr p l e R s m args below meth c D K b xs A q ad rs ls st H locs cells slots Q hC hA hL hQ
  have hr : sx_fo (sx_ft (sx_mt mi).1 pc) (fun w => sx_if (sx_if fl true (Nat.beq (sx_wh w) 0)) (sx_body ih N w d mi (sx_mt mi).1 lst pc L S h n sy cs ss) (sx_head ih d mi (sx_mt mi).1 lst pc L S h n sy cs ss)) = some outs := hr
  rw [sx_fo_eq] at hr
  have hbr : sx_body ih N (sx_ft (sx_mt mi).1 pc) d mi (sx_mt mi).1 lst pc L S h n sy cs ss = some outs ∨ sx_head ih d mi (sx_mt mi).1 lst pc L S h n sy cs ss = some outs := by
    cases hc : sx_if fl true (Nat.beq (sx_wh (sx_ft (sx_mt mi).1 pc)) 0) with
    | true => rw [hc, sx_if_t] at hr; exact Or.inl hr
    | false => rw [hc, sx_if_f] at hr; exact Or.inr hr
  rcases hbr with hr | hr
  · rcases Nat.eq_zero_or_pos (sx_mt mi).1 with h0 | h0
    · have hz : sx_ft (sx_mt mi).1 pc = 0 := by
        rw [h0]
        show (0 >>> (80 * pc)) % 1208925819614629174706176 = 0
        rw [Nat.zero_shiftRight]
      rw [hz, h0, sx_body0] at hr
      cases hr
    · have hM := hMO mi q hC.1 h0
      obtain ⟨len, hlen⟩ := hM.1
      exact sx_sBody IH hC hA hL hQ hMO hM hN31 (fun hne => sx_mw_ok hlen pc hne) hr
  · exact sx_sHead IH hC hA hL hQ hr
theorem sx_sound (hMO : sx_MO) (hN31 : N < 2 ^ 31) : ∀ fuel, sx_Ok N (sx_run N fuel)
  | 0 => fun d mi lst fl pc L S h n sy cs ss outs hr => by cases hr
  | fuel + 1 => sx_step_ok hMO hN31 (sx_sound hMO hN31 fuel)
end SXSound
