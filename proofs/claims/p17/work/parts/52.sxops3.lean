/-! sx: branches, the stack, longs -/
section SXOps3
variable {N : Nat} {ih : sx_ih} {w d mi pc n cs ss : Nat} {lst : List sx_I} {L S : List Nat} {h : sx_H} {sy : sx_Y} {outs : List sx_O}
variable {p : Program} {l : Launch} {e : Env} {R : Room} {s : State} {m : MethodId} {args : Array Value} {below : List Frame} {meth : Method} {c : Code} {D : va_G} {K : ClassId → FieldType → Prop} {b : Nat → Nat} {xs : Nat → Int32} {A : Nat → Prop} {q : sx_M}
variable {ad : List Nat} {rs : List Int32} {ls : Array Slot} {st : List Value} {H : Heap} {locs : List Loc} {cells slots : Nat} {Q : State → Prop}
theorem sx_p1_cons {a : Nat} {t : List Nat} {k : Nat → List Nat → sx_R} : sx_p1 (a :: t) k = k a t := rfl
theorem sx_sIf (IH : sx_Ok N ih) (hC : sx_Cx p e R s m meth c D K b N xs A mi d q) (hA : sx_At R s c D K b N xs A ad rs cells slots locs L S h n sy cs ss ls st H) (hL : sx_Ls p l e R s m args below meth c D K b N xs A Q ad rs lst) (hQ : ∀ o ∈ outs, ∀ t, sx_En R s below D K b A ad rs o t → Q t)
    (hk : sx_k6 q pc w = true) (hr : sx_oIf ih w d mi (sx_mt mi).1 lst pc L S h n sy cs ss = some outs) : W p l e R s m args below meth c H locs cells slots Q (F0 m pc ls st) := by
  obtain ⟨-, hx, -, hb, hml, -, -, -, hown, -, hT, -⟩ := id hC
  obtain ⟨hLc, hSt, hrest⟩ := id hA
  unfold sx_oIf at hr
  cases S with
  | nil => cases hr
  | cons x r =>
  obtain ⟨i1, hr⟩ := sx_if_ok (show sx_if (Nat.ble (sx_tg x) 1) _ none = some outs from hr)
  obtain ⟨vx, st2, rfl, hvx, hSt2⟩ := hSt.cons
  obtain ⟨zx, rfl⟩ := hvx.i (sx_ble i1)
  have hvy : sx_V b ad rs 0 (.int 0) := Or.inl ⟨rfl, rfl⟩
  unfold sx_k6 at hk
  simp only [Bool.and_eq_true, decide_eq_true_eq] at hk
  obtain ⟨ho, hk⟩ := hk
  obtain ⟨hY, hG, hS, hxs, hrm⟩ := id hrest
  obtain ⟨sy', outs', a1, a2, a3, a4⟩ := sx_cmp_ok ho hr hY hvx hvy
  simp only [sx_fo_eq] at a1
  have gt : sx_cb (sx_wa w) (sx_b zx) (sx_b 0) = true → W p l e R s m args below meth c H locs cells slots Q (F0 m (sx_wb w) ls st2) := fun hc => by
    rw [hc] at a1
    exact sx_go IH a1 hC ⟨hLc, hSt2, a3, hG, hS, hxs, hrm⟩ hL List.prefix_rfl List.prefix_rfl a2 hQ
  have gf : sx_cb (sx_wa w) (sx_b zx) (sx_b 0) = false → W p l e R s m args below meth c H locs cells slots Q (F0 m (pc + 3) ls st2) := fun hc => by
    rw [hc] at a1
    exact sx_go IH a1 hC ⟨hLc, hSt2, a3, hG, hS, hxs, hrm⟩ hL List.prefix_rfl List.prefix_rfl a2 hQ
  have hd := sx_dc_ok hk
  have ht : (pc : Int) + sx_of pc (sx_wb w) = (sx_wb w : Int) := by unfold sx_of; omega
  rcases (show sx_wa w = 0 ∨ sx_wa w = 1 ∨ sx_wa w = 2 ∨ sx_wa w = 3 ∨ sx_wa w = 4 ∨ sx_wa w = 5 by omega) with ho | ho | ho | ho | ho | ho
  all_goals rw [ho] at hd gt gf
  · exact lv_if_eq hx hb hd ht (fun hc => gt (sx_beq_t (sx_b_eq.mpr hc))) (fun hc => gf (sx_beq_e (fun h => hc (sx_b_eq.mp h))))
  · exact lv_if_ne hx hb hd ht (fun hc => gt (by show (!Nat.beq _ _) = true; rw [sx_beq_e (fun h => hc (sx_b_eq.mp h))]; rfl)) (fun hc => gf (by show (!Nat.beq _ _) = false; rw [sx_beq_t (sx_b_eq.mpr hc)]; rfl))
  · exact lv_if_lt hx hb hd ht (fun hc => gt (sx_blt_t (sx_b_ltI.mpr hc))) (fun hc => gf (sx_blt_e (fun h => hc (sx_b_ltI.mp h))))
  · exact lv_if_ge hx hb hd ht (fun hc => gt (Nat.ble_eq_true_of_le (sx_b_leI.mpr hc))) (fun hc => gf (sx_ble_e (fun h => hc (sx_b_leI.mp h))))
  · exact lv_if_gt hx hb hd ht (fun hc => gt (sx_blt_t (sx_b_ltI.mpr hc))) (fun hc => gf (sx_blt_e (fun h => hc (sx_b_ltI.mp h))))
  · exact lv_if_le hx hb hd ht (fun hc => gt (Nat.ble_eq_true_of_le (sx_b_leI.mpr hc))) (fun hc => gf (sx_ble_e (fun h => hc (sx_b_leI.mp h))))
theorem sx_sIcmp (IH : sx_Ok N ih) (hC : sx_Cx p e R s m meth c D K b N xs A mi d q) (hA : sx_At R s c D K b N xs A ad rs cells slots locs L S h n sy cs ss ls st H) (hL : sx_Ls p l e R s m args below meth c D K b N xs A Q ad rs lst) (hQ : ∀ o ∈ outs, ∀ t, sx_En R s below D K b A ad rs o t → Q t)
    (hk : sx_k7 q pc w = true) (hr : sx_oIcmp ih w d mi (sx_mt mi).1 lst pc L S h n sy cs ss = some outs) : W p l e R s m args below meth c H locs cells slots Q (F0 m pc ls st) := by
  obtain ⟨-, hx, -, hb, hml, -, -, -, hown, -, hT, -⟩ := id hC
  obtain ⟨hLc, hSt, hrest⟩ := id hA
  unfold sx_oIcmp at hr
  cases S with
  | nil => cases hr
  | cons y r =>
  cases r with
  | nil => cases hr
  | cons x r =>
  obtain ⟨hii, hr⟩ := sx_if_ok (show sx_if (sx_ii x y) _ none = some outs from hr)
  obtain ⟨i1, i2⟩ := sx_and_ok hii
  obtain ⟨vy, st1, rfl, hvy, hSt1⟩ := hSt.cons
  obtain ⟨vx, st2, rfl, hvx, hSt2⟩ := hSt1.cons
  obtain ⟨zx, rfl⟩ := hvx.i (sx_ble i1)
  obtain ⟨zy, rfl⟩ := hvy.i (sx_ble i2)
  unfold sx_k7 at hk
  simp only [Bool.and_eq_true, decide_eq_true_eq] at hk
  obtain ⟨ho, hk⟩ := hk
  obtain ⟨hY, hG, hS, hxs, hrm⟩ := id hrest
  obtain ⟨sy', outs', a1, a2, a3, a4⟩ := sx_cmp_ok ho hr hY hvx hvy
  simp only [sx_fo_eq] at a1
  have gt : sx_cb (sx_wa w) (sx_b zx) (sx_b zy) = true → W p l e R s m args below meth c H locs cells slots Q (F0 m (sx_wb w) ls st2) := fun hc => by
    rw [hc] at a1
    exact sx_go IH a1 hC ⟨hLc, hSt2, a3, hG, hS, hxs, hrm⟩ hL List.prefix_rfl List.prefix_rfl a2 hQ
  have gf : sx_cb (sx_wa w) (sx_b zx) (sx_b zy) = false → W p l e R s m args below meth c H locs cells slots Q (F0 m (pc + 3) ls st2) := fun hc => by
    rw [hc] at a1
    exact sx_go IH a1 hC ⟨hLc, hSt2, a3, hG, hS, hxs, hrm⟩ hL List.prefix_rfl List.prefix_rfl a2 hQ
  have hd := sx_dc_ok hk
  have ht : (pc : Int) + sx_of pc (sx_wb w) = (sx_wb w : Int) := by unfold sx_of; omega
  rcases (show sx_wa w = 0 ∨ sx_wa w = 1 ∨ sx_wa w = 2 ∨ sx_wa w = 3 ∨ sx_wa w = 4 ∨ sx_wa w = 5 by omega) with ho | ho | ho | ho | ho | ho
  all_goals rw [ho] at hd gt gf
  · exact lv_icmp_eq hx hb hd ht (fun hc => gt (sx_beq_t (sx_b_eq.mpr hc))) (fun hc => gf (sx_beq_e (fun h => hc (sx_b_eq.mp h))))
  · exact lv_icmp_ne hx hb hd ht (fun hc => gt (by show (!Nat.beq _ _) = true; rw [sx_beq_e (fun h => hc (sx_b_eq.mp h))]; rfl)) (fun hc => gf (by show (!Nat.beq _ _) = false; rw [sx_beq_t (sx_b_eq.mpr hc)]; rfl))
  · exact lv_icmp_lt hx hb hd ht (fun hc => gt (sx_blt_t (sx_b_ltI.mpr hc))) (fun hc => gf (sx_blt_e (fun h => hc (sx_b_ltI.mp h))))
  · exact lv_icmp_ge hx hb hd ht (fun hc => gt (Nat.ble_eq_true_of_le (sx_b_leI.mpr hc))) (fun hc => gf (sx_ble_e (fun h => hc (sx_b_leI.mp h))))
  · exact lv_icmp_gt hx hb hd ht (fun hc => gt (sx_blt_t (sx_b_ltI.mpr hc))) (fun hc => gf (sx_blt_e (fun h => hc (sx_b_ltI.mp h))))
  · exact lv_icmp_le hx hb hd ht (fun hc => gt (Nat.ble_eq_true_of_le (sx_b_leI.mpr hc))) (fun hc => gf (sx_ble_e (fun h => hc (sx_b_leI.mp h))))
theorem sx_sGoto (IH : sx_Ok N ih) (hC : sx_Cx p e R s m meth c D K b N xs A mi d q) (hA : sx_At R s c D K b N xs A ad rs cells slots locs L S h n sy cs ss ls st H) (hL : sx_Ls p l e R s m args below meth c D K b N xs A Q ad rs lst) (hQ : ∀ o ∈ outs, ∀ t, sx_En R s below D K b A ad rs o t → Q t)
    (hk : sx_k8 q pc w = true) (hr : sx_oGoto ih w d mi (sx_mt mi).1 lst L S h n sy cs ss = some outs) : W p l e R s m args below meth c H locs cells slots Q (F0 m pc ls st) := by
  obtain ⟨-, hx, -, hb, hml, -, -, -, hown, -, hT, -⟩ := id hC
  obtain ⟨hLc, hSt, hrest⟩ := id hA
  unfold sx_oGoto at hr
  rw [sx_fo_eq] at hr
  exact lv_goto hx hb (sx_dc_ok hk) (by unfold sx_of; omega) (sx_go IH hr hC hA hL List.prefix_rfl List.prefix_rfl (fun _ h => h) hQ)
theorem sx_sDup (IH : sx_Ok N ih) (hC : sx_Cx p e R s m meth c D K b N xs A mi d q) (hA : sx_At R s c D K b N xs A ad rs cells slots locs L S h n sy cs ss ls st H) (hL : sx_Ls p l e R s m args below meth c D K b N xs A Q ad rs lst) (hQ : ∀ o ∈ outs, ∀ t, sx_En R s below D K b A ad rs o t → Q t)
    (hk : sx_dc q pc .dup 1 = true) (hr : sx_oDup ih d mi (sx_mt mi).1 lst pc L S h n sy cs ss = some outs) : W p l e R s m args below meth c H locs cells slots Q (F0 m pc ls st) := by
  obtain ⟨-, hx, -, hb, hml, -, -, -, hown, -, hT, -⟩ := id hC
  obtain ⟨hLc, hSt, hrest⟩ := id hA
  unfold sx_oDup at hr
  cases S with
  | nil => cases hr
  | cons v r =>
  have hr : sx_if (Nat.beq (sx_tg v) 4) none _ = some outs := hr
  obtain ⟨x, st', rfl, hv, hSt'⟩ := hSt.cons
  cases h4 : Nat.beq (sx_tg v) 4 with
  | true => rw [h4] at hr; cases hr
  | false =>
    rw [h4, sx_if_f, sx_fo_eq] at hr
    exact lv_dup hx hb (sx_dc_ok hk) (hv.c1 (sx_beq_f h4)) (sx_go IH hr hC ⟨hLc, ⟨hv, hv, hSt'⟩, hrest⟩ hL List.prefix_rfl List.prefix_rfl (fun _ h => h) hQ)
theorem sx_sPop (IH : sx_Ok N ih) (hC : sx_Cx p e R s m meth c D K b N xs A mi d q) (hA : sx_At R s c D K b N xs A ad rs cells slots locs L S h n sy cs ss ls st H) (hL : sx_Ls p l e R s m args below meth c D K b N xs A Q ad rs lst) (hQ : ∀ o ∈ outs, ∀ t, sx_En R s below D K b A ad rs o t → Q t)
    (hk : sx_dc q pc .pop 1 = true) (hr : sx_oPop ih d mi (sx_mt mi).1 lst pc L S h n sy cs ss = some outs) : W p l e R s m args below meth c H locs cells slots Q (F0 m pc ls st) := by
  obtain ⟨-, hx, -, hb, hml, -, -, -, hown, -, hT, -⟩ := id hC
  obtain ⟨hLc, hSt, hrest⟩ := id hA
  unfold sx_oPop at hr
  cases S with
  | nil => cases hr
  | cons v r =>
  have hr : sx_if (Nat.beq (sx_tg v) 4) none _ = some outs := hr
  obtain ⟨x, st', rfl, hv, hSt'⟩ := hSt.cons
  cases h4 : Nat.beq (sx_tg v) 4 with
  | true => rw [h4] at hr; cases hr
  | false =>
    rw [h4, sx_if_f, sx_fo_eq] at hr
    exact lv_pop hx hb (sx_dc_ok hk) (hv.c1 (sx_beq_f h4)) (sx_go IH hr hC ⟨hLc, hSt', hrest⟩ hL List.prefix_rfl List.prefix_rfl (fun _ h => h) hQ)
theorem sx_sDup2 (IH : sx_Ok N ih) (hC : sx_Cx p e R s m meth c D K b N xs A mi d q) (hA : sx_At R s c D K b N xs A ad rs cells slots locs L S h n sy cs ss ls st H) (hL : sx_Ls p l e R s m args below meth c D K b N xs A Q ad rs lst) (hQ : ∀ o ∈ outs, ∀ t, sx_En R s below D K b A ad rs o t → Q t)
    (hk : sx_dc q pc .dup2 1 = true) (hr : sx_oDup2 ih d mi (sx_mt mi).1 lst pc L S h n sy cs ss = some outs) : W p l e R s m args below meth c H locs cells slots Q (F0 m pc ls st) := by
  obtain ⟨-, hx, -, hb, hml, -, -, -, hown, -, hT, -⟩ := id hC
  obtain ⟨hLc, hSt, hrest⟩ := id hA
  unfold sx_oDup2 at hr
  cases S with
  | nil => cases hr
  | cons v r =>
  obtain ⟨x, st', rfl, hv, hSt'⟩ := hSt.cons
  rw [sx_p1_cons] at hr
  simp only [sx_fo_eq] at hr
  cases h4 : Nat.beq (sx_tg v) 4 with
  | true =>
    rw [h4, sx_if_t] at hr
    have e := hv.t4 (sx_beq h4)
    exact lv_dup2_2 hx hb (sx_dc_ok hk) (by rw [e]; rfl) (sx_go IH hr hC ⟨hLc, ⟨hv, hv, hSt'⟩, hrest⟩ hL List.prefix_rfl List.prefix_rfl (fun _ h => h) hQ)
  | false =>
    rw [h4, sx_if_f] at hr
    cases r with
    | nil => cases hr
    | cons u r2 =>
    have hr : sx_if (Nat.beq (sx_tg u) 4) none _ = some outs := hr
    obtain ⟨y, st2, rfl, hu, hSt2⟩ := hSt'.cons
    cases g4 : Nat.beq (sx_tg u) 4 with
    | true => rw [g4] at hr; cases hr
    | false =>
      rw [g4, sx_if_f] at hr
      exact lv_dup2_11 hx hb (sx_dc_ok hk) (hv.c1 (sx_beq_f h4)) (hu.c1 (sx_beq_f g4)) (sx_go IH hr hC ⟨hLc, ⟨hv, hu, hv, hu, hSt2⟩, hrest⟩ hL List.prefix_rfl List.prefix_rfl (fun _ h => h) hQ)
theorem sx_V_j (z : Int64) : sx_V b ad rs (sx_j z) (.long z) := Or.inr (Or.inr (Or.inr (Or.inr (Or.inl ⟨(sx_j_ok z).1, by rw [(sx_j_ok z).2]⟩))))
theorem sx_sUn (IH : sx_Ok N ih) (hC : sx_Cx p e R s m meth c D K b N xs A mi d q) (hA : sx_At R s c D K b N xs A ad rs cells slots locs L S h n sy cs ss ls st H) (hL : sx_Ls p l e R s m args below meth c D K b N xs A Q ad rs lst) (hQ : ∀ o ∈ outs, ∀ t, sx_En R s below D K b A ad rs o t → Q t)
    (hk : sx_k32 q pc w = true) (hr : sx_oUn ih w d mi (sx_mt mi).1 lst pc L S h n sy cs ss = some outs) : W p l e R s m args below meth c H locs cells slots Q (F0 m pc ls st) := by
  obtain ⟨-, hx, -, hb, hml, -, -, -, hown, -, hT, -⟩ := id hC
  obtain ⟨hLc, hSt, hrest⟩ := id hA
  unfold sx_oUn at hr
  cases S with
  | nil => cases hr
  | cons v r =>
  obtain ⟨x, st', rfl, hv, hSt'⟩ := hSt.cons
  rw [sx_p1_cons] at hr
  simp only [sx_fo_eq] at hr
  obtain ⟨hY, hrest2⟩ := id hrest
  unfold sx_k32 at hk
  cases c2 : Nat.beq (sx_wa w) 2 with
  | true =>
    rw [c2, sx_if_t] at hr
    have w2 := sx_beq c2
    obtain ⟨h4, hr⟩ := sx_if_ok hr
    have e := hv.t4 (sx_beq h4)
    subst e
    rw [w2] at hk
    exact lv_l2i hx hb (sx_dc_ok (show sx_dc q pc .l2i 1 = true from hk)) rfl (sx_go IH hr hC ⟨hLc, ⟨sx_V_i _, hSt'⟩, hrest⟩ hL List.prefix_rfl List.prefix_rfl (fun _ h => h) hQ)
  | false =>
    rw [c2, sx_if_f] at hr
    obtain ⟨v', hr, hv', -⟩ := sx_nm_ok hr hY hv
    obtain ⟨h0, hr⟩ := sx_if_ok hr
    have e := hv'.t0 (sx_beq h0)
    subst e
    split at hk
    · rename_i w0
      rw [w0] at hr
      exact lv_ineg hx hb (sx_dc_ok hk) (sx_go IH hr hC ⟨hLc, ⟨sx_V_i _, hSt'⟩, hrest⟩ hL List.prefix_rfl List.prefix_rfl (fun _ h => h) hQ)
    split at hk
    · rename_i w1
      rw [w1] at hr
      exact lv_i2l hx hb (sx_dc_ok hk) rfl (sx_go IH hr hC ⟨hLc, ⟨sx_V_j _, hSt'⟩, hrest⟩ hL List.prefix_rfl List.prefix_rfl (fun _ h => h) hQ)
    · simp only [Bool.and_eq_true, decide_eq_true_eq] at hk
      exact absurd hk.1 (sx_beq_f c2)
theorem sx_sLb (IH : sx_Ok N ih) (hC : sx_Cx p e R s m meth c D K b N xs A mi d q) (hA : sx_At R s c D K b N xs A ad rs cells slots locs L S h n sy cs ss ls st H) (hL : sx_Ls p l e R s m args below meth c D K b N xs A Q ad rs lst) (hQ : ∀ o ∈ outs, ∀ t, sx_En R s below D K b A ad rs o t → Q t)
    (hk : sx_k35 q pc w = true) (hr : sx_oLb ih w d mi (sx_mt mi).1 lst pc L S h n sy cs ss = some outs) : W p l e R s m args below meth c H locs cells slots Q (F0 m pc ls st) := by
  obtain ⟨-, hx, -, hb, hml, -, -, -, hown, -, hT, -⟩ := id hC
  obtain ⟨hLc, hSt, hrest⟩ := id hA
  unfold sx_oLb at hr
  cases S with
  | nil => cases hr
  | cons v r =>
  cases r with
  | nil => cases hr
  | cons u r2 =>
  obtain ⟨vy, st1, rfl, hvy, hSt1⟩ := hSt.cons
  obtain ⟨vx, st2, rfl, hvx, hSt2⟩ := hSt1.cons
  obtain ⟨hc, hr⟩ := sx_if_ok (show sx_if (sx_and (Nat.beq (sx_tg u) 4) _) _ none = some outs from hr)
  obtain ⟨c1, hc⟩ := sx_and_ok hc
  obtain ⟨c2, hc⟩ := sx_and_ok hc
  have e1 := hvx.t4 (sx_beq c1)
  have e2 := hvy.t4 (sx_beq c2)
  subst e1
  subst e2
  simp only [sx_fo_eq] at hr
  unfold sx_k35 at hk
  split at hk
  · rename_i w0
    rw [w0] at hr
    exact lv_ladd hx hb (sx_dc_ok hk) (sx_go IH hr hC ⟨hLc, ⟨sx_V_j _, hSt2⟩, hrest⟩ hL List.prefix_rfl List.prefix_rfl (fun _ h => h) hQ)
  split at hk
  · rename_i w0
    rw [w0] at hr
    exact lv_lsub hx hb (sx_dc_ok hk) (sx_go IH hr hC ⟨hLc, ⟨sx_V_j _, hSt2⟩, hrest⟩ hL List.prefix_rfl List.prefix_rfl (fun _ h => h) hQ)
  split at hk
  · rename_i w0
    rw [w0] at hr
    exact lv_lmul hx hb (sx_dc_ok hk) (sx_go IH hr hC ⟨hLc, ⟨sx_V_j _, hSt2⟩, hrest⟩ hL List.prefix_rfl List.prefix_rfl (fun _ h => h) hQ)
  split at hk
  · rename_i w0
    rw [w0] at hr hc
    refine lv_ldiv hx hb (sx_dc_ok hk) (fun hz => ?_) (sx_go IH hr hC ⟨hLc, ⟨sx_V_j _, hSt2⟩, hrest⟩ hL List.prefix_rfl List.prefix_rfl (fun _ h => h) hQ)
    have hc : (!Nat.beq (Nat.mod (sx_pl v) 18446744073709551616) 0) = true := hc
    have h0 : Nat.beq (Nat.mod (sx_pl v) 18446744073709551616) 0 = true := by
      apply sx_beq_t
      have h1 : (Int64.ofNat (v / 8)).toBitVec.toNat = (0 : Int64).toBitVec.toNat := by rw [hz]
      rw [show (0 : Int64).toBitVec.toNat = 0 from rfl] at h1
      have h2 : (Int64.ofNat (v / 8)).toBitVec.toNat = v / 8 % 18446744073709551616 := by
        show (BitVec.ofNat 64 (v / 8)).toNat = _
        rw [BitVec.toNat_ofNat]
      rw [h2] at h1
      exact h1
    rw [h0] at hc
    cases hc
  · rename_i w0 w1 w2 w3
    have hw : sx_lf (sx_wa w) (Int64.ofNat (sx_pl u)) (Int64.ofNat (sx_pl v)) = sx_i (lg_cmp (Int64.ofNat (u / 8)) (Int64.ofNat (v / 8))) := by
      unfold sx_lf
      rw [sx_beq_e w0, sx_beq_e w1, sx_beq_e w2, sx_beq_e w3]
      rfl
    rw [hw] at hr
    exact W.lcmp hx hb (sx_dc_ok hk) (sx_go IH hr hC ⟨hLc, ⟨sx_V_i _, hSt2⟩, hrest⟩ hL List.prefix_rfl List.prefix_rfl (fun _ h => h) hQ)
end SXOps3
