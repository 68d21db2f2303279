/-! sx: Strings, statics, bytes, a call of two targets -/
section SXNops
variable {N : Nat} {ih : sx_ih} {w d mi pc n cs ss : Nat} {lst : List sx_I} {L S : List Nat} {h : sx_H} {sy : sx_Y} {outs : List sx_O}
variable {p : Program} {l : Launch} {e : Env} {R : Room} {s : State} {m : MethodId} {args : Array Value} {below : List Frame} {meth : Method} {c : Code} {D : va_G} {K : ClassId → FieldType → Prop} {b : Nat → Nat} {xs : Nat → Int32} {A : Nat → Prop} {q : sx_M}
variable {ad : List Nat} {rs : List Int32} {ls : Array Slot} {st : List Value} {H : Heap} {locs : List Loc} {cells slots : Nat} {Q : State → Prop}
theorem sx_V_k (k : Nat) : sx_V b ad rs (Nat.add (Nat.mul 8 k) 5) (.ref (b k)) := by
  have e : Nat.add (Nat.mul 8 k) 5 = 8 * k + 5 := rfl
  rw [e]
  exact Or.inr (Or.inr (Or.inr (Or.inr (Or.inr (Or.inl ⟨by omega, by rw [show (8 * k + 5) / 8 = k by omega]⟩)))))
theorem sx_V_n (k : Nat) : sx_V b ad rs (Nat.mul 8 k) (.int (Int32.ofNat k)) := Or.inl ⟨Nat.mul_mod_right 8 _, by rw [show Nat.mul 8 k / 8 = k from Nat.mul_div_cancel_left _ (by decide)]⟩
theorem sx_sr_len : sx_sr.length = sx_ns ∧ sx_sb.length = sx_ns := by decide +kernel
theorem sx_sb_ok : sx_sb.all (fun t => decide (t.length ≤ 5000)) = true := by decide +kernel
theorem sx_sLdcS (IH : sx_Ok N ih) (hC : sx_Cx p e R s m meth c D K b N xs A mi d q) (hA : sx_At R s c D K b N xs A ad rs cells slots locs L S h n sy cs ss ls st H) (hL : sx_Ls p l e R s m args below meth c D K b N xs A Q ad rs lst) (hQ : ∀ o ∈ outs, ∀ t, sx_En R s below D K b A ad rs o t → Q t)
    (hk : sx_k33 q pc w = true) (hr : sx_oLdcS ih w d mi (sx_mt mi).1 lst pc L S h n sy cs ss = some outs) : W p l e R s m args below meth c H locs cells slots Q (F0 m pc ls st) := by
  obtain ⟨-, hx, -, hb, hml, -, -, -, hown, -, hT, hSx, -⟩ := id hC
  obtain ⟨hLc, hSt, hrest⟩ := id hA
  obtain ⟨hY, hG, hS, hxs, hrm⟩ := id hrest
  obtain ⟨-, -, K1, K2, ⟨K3, K4, K5⟩, ⟨uu, hu, K6⟩, -⟩ := id hSx
  unfold sx_oLdcS at hr
  obtain ⟨-, hr⟩ := sx_if_ok hr
  simp only [sx_fo_eq] at hr
  unfold sx_k33 at hk
  simp only [Bool.and_eq_true, decide_eq_true_eq] at hk
  obtain ⟨-, hk⟩ := hk
  obtain ⟨u, hu', hk⟩ := sx_oa_ok hk
  simp only [Bool.and_eq_true, decide_eq_true_eq] at hk
  obtain ⟨k1, k2⟩ := hk
  have hZ := (K1 _ u hu').1
  have go : W p l e R s m args below meth c H locs cells slots Q (F0 m (pc + sx_wb w) ls (.ref (b (2 + sx_wa w)) :: st)) := sx_go IH hr hC ⟨hLc, ⟨sx_V_k _, hSt⟩, hrest⟩ hL List.prefix_rfl List.prefix_rfl (fun _ h => h) hQ
  by_cases h2 : sx_wb w = 2
  · rw [if_pos h2] at k2
    rw [h2] at go
    exact va_ldcS hx hb (by rw [k1]; exact hown) hZ (sx_dc_ok k2) go
  · rw [if_neg h2] at k2
    simp only [Bool.and_eq_true, decide_eq_true_eq] at k2
    rw [k2.1] at go
    exact sx_ldcwS hx hb (by rw [k1]; exact hown) hZ (sx_dc_ok k2.2) go

theorem sx_sGets (IH : sx_Ok N ih) (hC : sx_Cx p e R s m meth c D K b N xs A mi d q) (hA : sx_At R s c D K b N xs A ad rs cells slots locs L S h n sy cs ss ls st H) (hL : sx_Ls p l e R s m args below meth c D K b N xs A Q ad rs lst) (hQ : ∀ o ∈ outs, ∀ t, sx_En R s below D K b A ad rs o t → Q t)
    (hk : sx_k34 q pc w = true) (hr : sx_oGets ih w d mi (sx_mt mi).1 lst pc L S h n sy cs ss = some outs) : W p l e R s m args below meth c H locs cells slots Q (F0 m pc ls st) := by
  obtain ⟨-, hx, -, hb, hml, -, -, -, hown, -, hT, hSx, -⟩ := id hC
  obtain ⟨hLc, hSt, hrest⟩ := id hA
  obtain ⟨hY, hG, hS, hxs, hrm⟩ := id hrest
  obtain ⟨-, -, K1, K2, ⟨K3, K4, K5⟩, ⟨uu, hu, K6⟩, -⟩ := id hSx
  unfold sx_oGets at hr
  simp only [sx_fo_eq] at hr
  unfold sx_k34 at hk
  obtain ⟨t, ht, hk⟩ := sx_oa_ok hk
  simp only [Bool.and_eq_true, decide_eq_true_eq] at hk
  obtain ⟨k1, k2, k3⟩ := hk
  have hlink := hT.1 args _ (sx_fx_in ht)
  have go : ∀ x : Value, sx_V b ad rs (sx_wc w) x → W p l e R s m args below meth c H locs cells slots Q (F0 m (pc + 3) ls (x :: st)) := fun x hv => sx_go IH hr hC ⟨hLc, ⟨hv, hSt⟩, hrest⟩ hL List.prefix_rfl List.prefix_rfl (fun _ h => h) hQ
  by_cases h0 : sx_wb w = 0
  · rw [if_pos h0] at k3
    simp only [Bool.and_eq_true, decide_eq_true_eq] at k3
    rw [k3.1] at hlink
    rw [k3.2] at go
    exact va_gets hx hb K4 hS (by rw [k1]; exact hown) hlink (fun _ h => h) (sx_dc_ok k2) (go _ (sx_V_k 1))
  · rw [if_neg h0] at k3
    by_cases h1 : sx_wb w = 1
    · rw [if_pos h1] at k3
      simp only [Bool.and_eq_true, decide_eq_true_eq] at k3
      rw [k3.1] at hlink
      rw [k3.2] at go
      exact va_gets hx hb K3 hS (by rw [k1]; exact hown) hlink (fun _ h => h) (sx_dc_ok k2) (go _ (sx_V_n 1))
    · rw [if_neg h1] at k3
      simp only [Bool.and_eq_true, decide_eq_true_eq] at k3
      rw [k3.1] at hlink
      rw [k3.2] at go
      exact va_gets hx hb K6 hS (by rw [k1]; exact hown) hlink (fun _ h => h) (sx_dc_ok k2) (go _ (Or.inr (Or.inr (Or.inr (Or.inr (Or.inr (Or.inr ⟨rfl, hu⟩)))))))

theorem sx_isS_ok {v : Nat} {x : Value} (h : sx_isS v = true) (hv : sx_V b ad rs v x) : ∃ k q, v / 8 = 2 + k ∧ sx_sr[k]? = some q ∧ x = .ref (b (2 + k)) := by
  unfold sx_isS at h
  obtain ⟨h1, h2⟩ := sx_and_ok h
  obtain ⟨h2, h3⟩ := sx_and_ok h2
  have h2 : 2 ≤ v / 8 := sx_ble h2
  have h3 : v / 8 < 2 + sx_ns := sx_blt h3
  have hl : v / 8 - 2 < sx_sr.length := by rw [sx_sr_len.1]; omega
  exact ⟨v / 8 - 2, _, by omega, List.getElem?_eq_getElem hl, by rw [show 2 + (v / 8 - 2) = v / 8 by omega]; exact hv.t5 (sx_beq h1)⟩
theorem sx_isB_ok {v : Nat} {x : Value} (h : sx_isB v = true) (hv : sx_V b ad rs v x) : ∃ k, v / 8 = 2 + sx_ns + k ∧ Nat.sub (sx_pl v) (Nat.add 2 sx_ns) = k ∧ x = .ref (b (2 + sx_ns + k)) := by
  unfold sx_isB at h
  obtain ⟨h1, h2⟩ := sx_and_ok h
  have h2 : 2 + sx_ns ≤ v / 8 := sx_ble h2
  refine ⟨v / 8 - (2 + sx_ns), by omega, rfl, ?_⟩
  rw [show 2 + sx_ns + (v / 8 - (2 + sx_ns)) = v / 8 by omega]
  exact hv.t5 (sx_beq h1)
theorem sx_sSget (IH : sx_Ok N ih) (hC : sx_Cx p e R s m meth c D K b N xs A mi d q) (hA : sx_At R s c D K b N xs A ad rs cells slots locs L S h n sy cs ss ls st H) (hL : sx_Ls p l e R s m args below meth c D K b N xs A Q ad rs lst) (hQ : ∀ o ∈ outs, ∀ t, sx_En R s below D K b A ad rs o t → Q t)
    (hk : sx_k38 q pc w = true) (hr : sx_oSget ih w d mi (sx_mt mi).1 lst pc L S h n sy cs ss = some outs) : W p l e R s m args below meth c H locs cells slots Q (F0 m pc ls st) := by
  obtain ⟨-, hx, -, hb, hml, -, -, -, hown, -, hT, hSx, -⟩ := id hC
  obtain ⟨hLc, hSt, hrest⟩ := id hA
  obtain ⟨hY, hG, hS, hxs, hrm⟩ := id hrest
  obtain ⟨-, -, K1, K2, ⟨K3, K4, K5⟩, ⟨uu, hu, K6⟩, -⟩ := id hSx
  unfold sx_oSget at hr
  cases S with
  | nil => cases hr
  | cons v r =>
  obtain ⟨x, st', rfl, hv, hSt'⟩ := hSt.cons
  rw [sx_p1_cons] at hr
  obtain ⟨hs, hr⟩ := sx_if_ok hr
  simp only [sx_fo_eq] at hr
  obtain ⟨k, qq, e1, e2, rfl⟩ := sx_isS_ok hs hv
  unfold sx_k38 at hk
  obtain ⟨t, ht, hk⟩ := sx_oa_ok hk
  simp only [Bool.and_eq_true, decide_eq_true_eq] at hk
  obtain ⟨k1, k2, k3⟩ := hk
  have hlink := hT.1 args _ (sx_fx_in ht)
  by_cases h0 : sx_wb w = 0
  · rw [if_pos h0, decide_eq_true_eq] at k3
    rw [k3] at hlink
    rw [sx_beq_t h0, sx_if_t] at hr
    exact vk_getf hx hb (K1 k qq e2).2.2.1 hS (by rw [k1]; exact hown) hlink (fun _ h => h) (sx_dc_ok k2) (sx_go IH hr hC ⟨hLc, ⟨sx_V_n 0, hSt'⟩, hrest⟩ hL List.prefix_rfl List.prefix_rfl (fun _ h => h) hQ)
  · rw [if_neg h0, decide_eq_true_eq] at k3
    rw [k3] at hlink
    rw [sx_beq_e h0, sx_if_f] at hr
    have hv2 : sx_V b ad rs (Nat.add (Nat.mul 8 (Nat.add (sx_pl v) sx_ns)) 5) (.ref (b (2 + k + sx_ns))) := by
      have := sx_V_k (b := b) (ad := ad) (rs := rs) (Nat.add (sx_pl v) sx_ns)
      rw [show Nat.add (sx_pl v) sx_ns = v / 8 + sx_ns from rfl, e1] at this
      rw [show Nat.add (sx_pl v) sx_ns = v / 8 + sx_ns from rfl, e1]
      exact this
    exact vk_getf hx hb (K1 k qq e2).2.2.2 hS (by rw [k1]; exact hown) hlink (fun _ h => h) (sx_dc_ok k2) (sx_go IH hr hC ⟨hLc, ⟨hv2, hSt'⟩, hrest⟩ hL List.prefix_rfl List.prefix_rfl (fun _ h => h) hQ)

theorem sx_nth_some {α : Type} {l : List α} {k : Nat} {x : α} (h : sx_nth l k = some x) : l[k]? = some x := by rw [← sx_nth_eq]; exact h
theorem sx_sBald (IH : sx_Ok N ih) (hC : sx_Cx p e R s m meth c D K b N xs A mi d q) (hA : sx_At R s c D K b N xs A ad rs cells slots locs L S h n sy cs ss ls st H) (hL : sx_Ls p l e R s m args below meth c D K b N xs A Q ad rs lst) (hQ : ∀ o ∈ outs, ∀ t, sx_En R s below D K b A ad rs o t → Q t)
    (hk : sx_dc q pc .baload 1 = true) (hr : sx_oBald ih d mi (sx_mt mi).1 lst pc L S h n sy cs ss = some outs) : W p l e R s m args below meth c H locs cells slots Q (F0 m pc ls st) := by
  obtain ⟨-, hx, -, hb, hml, -, -, -, hown, -, hT, hSx, -⟩ := id hC
  obtain ⟨hLc, hSt, hrest⟩ := id hA
  obtain ⟨hY, hG, hS, hxs, hrm⟩ := id hrest
  obtain ⟨-, -, K1, K2, ⟨K3, K4, K5⟩, ⟨uu, hu, K6⟩, -⟩ := id hSx
  unfold sx_oBald at hr
  cases S with
  | nil => cases hr
  | cons v r =>
  cases r with
  | nil => cases hr
  | cons u r2 =>
  obtain ⟨xi, st1, rfl, hvi, hSt1⟩ := hSt.cons
  obtain ⟨xa, st2, rfl, hva, hSt2⟩ := hSt1.cons
  rw [sx_p1_cons, sx_p1_cons] at hr
  obtain ⟨hs, hr⟩ := sx_if_ok hr
  obtain ⟨k, e1, e2, rfl⟩ := sx_isB_ok hs hva
  rw [e2] at hr
  obtain ⟨t, ht, hr⟩ := sx_opt_ok (show _ = some outs from hr)
  have ht := sx_nth_some ht
  obtain ⟨x, sy', outs', rfl, hr, hsub, hY', -⟩ := sx_ix_ok hr hY hvi
  obtain ⟨z, hz, hr⟩ := sx_opt_ok (show _ = some outs' from hr)
  have hz := sx_nth_some hz
  simp only [sx_fo_eq] at hr
  have hl : x < t.length := (List.getElem?_eq_some_iff.mp hz).1
  have hb5 : t.length ≤ 5000 := of_decide_eq_true (List.all_eq_true.mp sx_sb_ok t (List.mem_of_getElem? ht))
  obtain ⟨i1, i2⟩ := sx_in_ok hl hb5
  have hzz : t.getD x 0 = z := by rw [List.getD_eq_getElem?_getD, hz]; rfl
  exact va_tb hx hb (K2 k t ht) hS i1 (v := .int (Int32.ofNat z)) (by rw [i2, hzz]) (sx_dc_ok hk) (sx_go IH hr hC ⟨hLc, ⟨sx_V_n z, hSt2⟩, hY', hG, hS, hxs, hrm⟩ hL List.prefix_rfl List.prefix_rfl hsub hQ)

theorem sx_sIaldX (IH : sx_Ok N ih) (hC : sx_Cx p e R s m meth c D K b N xs A mi d q) (hA : sx_At R s c D K b N xs A ad rs cells slots locs L S h n sy cs ss ls st H) (hL : sx_Ls p l e R s m args below meth c D K b N xs A Q ad rs lst) (hQ : ∀ o ∈ outs, ∀ t, sx_En R s below D K b A ad rs o t → Q t)
    (hN31 : N < 2 ^ 31) (hk : sx_dc q pc .iaload 1 = true) (hr : sx_oIald ih N d mi (sx_mt mi).1 lst pc L S h n sy cs ss = some outs) : W p l e R s m args below meth c H locs cells slots Q (F0 m pc ls st) := by
  obtain ⟨-, hx, -, hb, hml, -, -, -, hown, -, hT, hSx, -⟩ := id hC
  obtain ⟨hLc, hSt, hrest⟩ := id hA
  obtain ⟨hY, hG, hS, hxs, hrm⟩ := id hrest
  obtain ⟨-, -, K1, K2, ⟨K3, K4, K5⟩, ⟨uu, hu, K6⟩, -⟩ := id hSx
  unfold sx_oIald at hr
  cases S with
  | nil => cases hr
  | cons v r =>
  cases r with
  | nil => cases hr
  | cons u r2 =>
  rw [sx_p1_cons, sx_p1_cons] at hr
  cases h13 : Nat.beq u 13 with
  | false =>
    rw [h13, sx_if_f] at hr
    exact sx_sIald IH hC hA hL hQ hN31 hk hr
  | true =>
    rw [h13, sx_if_t] at hr
    obtain ⟨xi, st1, rfl, hvi, hSt1⟩ := hSt.cons
    obtain ⟨xa, st2, rfl, hva, hSt2⟩ := hSt1.cons
    have e13 : u = 13 := sx_beq h13
    have ea := hva.t5 (by rw [e13])
    rw [show b (u / 8) = b 1 by rw [e13]] at ea
    subst ea
    obtain ⟨x, sy', outs', rfl, hr, hsub, hY', -⟩ := sx_ix_ok hr hY hvi
    obtain ⟨z, hz, hr⟩ := sx_opt_ok (show _ = some outs' from hr)
    have hz := sx_nth_some hz
    simp only [sx_fo_eq] at hr
    have hl : x < 9 := (List.getElem?_eq_some_iff.mp hz).1
    obtain ⟨i1, i2⟩ := sx_in_ok hl (by decide)
    have hzz : sx_ordv.getD x 0 = z := by rw [List.getD_eq_getElem?_getD, hz]; rfl
    exact va_ti hx hb K5 hS i1 (v := .int (Int32.ofNat z)) (by rw [i2, hzz]) (sx_dc_ok hk) (sx_go IH hr hC ⟨hLc, ⟨sx_V_n z, hSt2⟩, hY', hG, hS, hxs, hrm⟩ hL List.prefix_rfl List.prefix_rfl hsub hQ)

theorem sx_sAlenX (IH : sx_Ok N ih) (hC : sx_Cx p e R s m meth c D K b N xs A mi d q) (hA : sx_At R s c D K b N xs A ad rs cells slots locs L S h n sy cs ss ls st H) (hL : sx_Ls p l e R s m args below meth c D K b N xs A Q ad rs lst) (hQ : ∀ o ∈ outs, ∀ t, sx_En R s below D K b A ad rs o t → Q t)
    (hN31 : N < 2 ^ 31) (hk : sx_dc q pc .arraylength 1 = true) (hr : sx_oAlenX ih N d mi (sx_mt mi).1 lst pc L S h n sy cs ss = some outs) : W p l e R s m args below meth c H locs cells slots Q (F0 m pc ls st) := by
  obtain ⟨-, hx, -, hb, hml, -, -, -, hown, -, hT, hSx, -⟩ := id hC
  obtain ⟨hLc, hSt, hrest⟩ := id hA
  obtain ⟨hY, hG, hS, hxs, hrm⟩ := id hrest
  obtain ⟨-, -, K1, K2, ⟨K3, K4, K5⟩, ⟨uu, hu, K6⟩, -⟩ := id hSx
  unfold sx_oAlenX at hr
  cases S with
  | nil => cases hr
  | cons v r =>
  rw [sx_p1_cons] at hr
  cases hs : sx_isB v with
  | false =>
    rw [hs, sx_if_f] at hr
    exact sx_sAlen IH hC hA hL hQ hN31 hk hr
  | true =>
    rw [hs, sx_if_t] at hr
    obtain ⟨x, st', rfl, hv, hSt'⟩ := hSt.cons
    obtain ⟨k, e1, e2, rfl⟩ := sx_isB_ok hs hv
    rw [e2] at hr
    obtain ⟨t, ht, hr⟩ := sx_opt_ok (show _ = some outs from hr)
    have ht := sx_nth_some ht
    simp only [sx_fo_eq] at hr
    exact va_tlen hx hb (K2 k t ht) hS rfl (sx_dc_ok hk) (sx_go IH hr hC ⟨hLc, ⟨sx_V_n t.length, hSt'⟩, hrest⟩ hL List.prefix_rfl List.prefix_rfl (fun _ h => h) hQ)

theorem sx_sLcon (IH : sx_Ok N ih) (hC : sx_Cx p e R s m meth c D K b N xs A mi d q) (hA : sx_At R s c D K b N xs A ad rs cells slots locs L S h n sy cs ss ls st H) (hL : sx_Ls p l e R s m args below meth c D K b N xs A Q ad rs lst) (hQ : ∀ o ∈ outs, ∀ t, sx_En R s below D K b A ad rs o t → Q t)
    (hk : sx_k41 q pc w = true) (hr : sx_oLcon ih w d mi (sx_mt mi).1 lst pc L S h n sy cs ss = some outs) : W p l e R s m args below meth c H locs cells slots Q (F0 m pc ls st) := by
  obtain ⟨-, hx, -, hb, hml, -, -, -, hown, -, hT, hSx, -⟩ := id hC
  obtain ⟨hLc, hSt, hrest⟩ := id hA
  obtain ⟨hY, hG, hS, hxs, hrm⟩ := id hrest
  obtain ⟨-, -, K1, K2, ⟨K3, K4, K5⟩, ⟨uu, hu, K6⟩, -⟩ := id hSx
  unfold sx_oLcon at hr
  obtain ⟨t, ht, hr⟩ := sx_opt_ok hr
  have ht := sx_nth_some ht
  simp only [sx_fo_eq] at hr
  unfold sx_k41 at hk
  obtain ⟨t', ht', hk⟩ := sx_oa_ok hk
  cases ht.symm.trans ht'
  simp only [Bool.and_eq_true, decide_eq_true_eq] at hk
  exact lv_ldc2 hx hb (by rw [hk.1]; exact hown) (hT.1 _ _ (sx_cg_in ht)) (sx_dc_ok hk.2) (sx_go IH hr hC ⟨hLc, ⟨sx_V_j _, hSt⟩, hrest⟩ hL List.prefix_rfl List.prefix_rfl (fun _ h => h) hQ)

theorem sx_ch_ok {k : Nat} (h : k < 65536) : ((Int32.ofNat k).toUInt32 % 65536).toInt32 = Int32.ofNat k := by
  apply Int32.toBitVec_inj.mp
  have e1 : ((Int32.ofNat k).toUInt32 % 65536).toInt32.toBitVec = (Int32.ofNat k).toBitVec % 65536#32 := rfl
  rw [e1]
  apply BitVec.eq_of_toNat_eq
  rw [BitVec.toNat_umod]
  have e2 : (Int32.ofNat k).toBitVec.toNat = k % 2 ^ 32 := rfl
  rw [e2]
  show k % 2 ^ 32 % 65536 = k % 2 ^ 32
  omega
theorem sx_sI2c (IH : sx_Ok N ih) (hC : sx_Cx p e R s m meth c D K b N xs A mi d q) (hA : sx_At R s c D K b N xs A ad rs cells slots locs L S h n sy cs ss ls st H) (hL : sx_Ls p l e R s m args below meth c D K b N xs A Q ad rs lst) (hQ : ∀ o ∈ outs, ∀ t, sx_En R s below D K b A ad rs o t → Q t)
    (hk : sx_dc q pc .i2c 1 = true) (hr : sx_oI2c ih d mi (sx_mt mi).1 lst pc L S h n sy cs ss = some outs) : W p l e R s m args below meth c H locs cells slots Q (F0 m pc ls st) := by
  obtain ⟨-, hx, -, hb, hml, -, -, -, hown, -, hT, hSx, -⟩ := id hC
  obtain ⟨hLc, hSt, hrest⟩ := id hA
  obtain ⟨hY, hG, hS, hxs, hrm⟩ := id hrest
  obtain ⟨-, -, K1, K2, ⟨K3, K4, K5⟩, ⟨uu, hu, K6⟩, -⟩ := id hSx
  unfold sx_oI2c at hr
  cases S with
  | nil => cases hr
  | cons v r =>
  obtain ⟨x, st', rfl, hv, hSt'⟩ := hSt.cons
  rw [sx_p1_cons] at hr
  obtain ⟨v', hr, hv', -⟩ := sx_nm_ok hr hY hv
  obtain ⟨hc, hr⟩ := sx_if_ok hr
  obtain ⟨c1, c2⟩ := sx_and_ok hc
  simp only [sx_fo_eq] at hr
  have ev := hv'.t0 (sx_beq c1)
  subst ev
  exact lv_i2c hx hb (sx_dc_ok hk) (sx_ch_ok (sx_blt c2)) (sx_go IH hr hC ⟨hLc, ⟨hv', hSt'⟩, hrest⟩ hL List.prefix_rfl List.prefix_rfl (fun _ h => h) hQ)

theorem sx_fit_b : ∀ k : Fin 128, narrow .byte (.int (Int32.ofNat k.val)) = .int (Int32.ofNat k.val) := by decide +kernel
theorem sx_fit_c {k : Nat} (h : k < 65536) : narrow .char (.int (Int32.ofNat k)) = .int (Int32.ofNat k) := by
  show Value.int (Int32.ofNat k).toUInt32.toUInt16.toUInt32.toInt32 = Value.int (Int32.ofNat k)
  refine congrArg Value.int (Int32.toBitVec_inj.mp (BitVec.eq_of_toNat_eq ?_))
  have e2 : (Int32.ofNat k).toBitVec.toNat = k % 2 ^ 32 := rfl
  have e1 : (Int32.ofNat k).toUInt32.toUInt16.toUInt32.toInt32.toBitVec.toNat = (Int32.ofNat k).toBitVec.toNat % 65536 := by
    show ((Int32.ofNat k).toUInt32.toUInt16.toUInt32).toNat = _
    rw [UInt16.toNat_toUInt32, UInt32.toNat_toUInt16]
    rfl
  rw [e1, e2]
  omega
theorem sx_sRetN (IH : sx_Ok N ih) (hC : sx_Cx p e R s m meth c D K b N xs A mi d q) (hA : sx_At R s c D K b N xs A ad rs cells slots locs L S h n sy cs ss ls st H) (hL : sx_Ls p l e R s m args below meth c D K b N xs A Q ad rs lst) (hQ : ∀ o ∈ outs, ∀ t, sx_En R s below D K b A ad rs o t → Q t)
    (hk : sx_k43 q pc w = true) (hr : sx_oRetN w S h n sy cs ss = some outs) : W p l e R s m args below meth c H locs cells slots Q (F0 m pc ls st) := by
  obtain ⟨-, hx, -, hb, hml, -, -, -, hown, -, hT, hSx, -⟩ := id hC
  obtain ⟨hLc, hSt, hrest⟩ := id hA
  obtain ⟨hY, hG, hS, hxs, hrm⟩ := id hrest
  obtain ⟨-, -, K1, K2, ⟨K3, K4, K5⟩, ⟨uu, hu, K6⟩, -⟩ := id hSx
  obtain ⟨-, -, -, -, -, hret, -, -, -, hlocks, -⟩ := id hC
  unfold sx_oRetN at hr
  cases S with
  | nil => cases hr
  | cons v r =>
  obtain ⟨x, st', rfl, hv, hSt'⟩ := hSt.cons
  rw [sx_p1_cons] at hr
  obtain ⟨hc, hr⟩ := sx_if_ok hr
  obtain ⟨c1, c2⟩ := sx_and_ok hc
  cases r with
  | cons y r2 => cases hr
  | nil =>
  have e := hSt'.nil
  subst e
  have hr : some [(1, v, h, n, sy, cs, ss)] = some outs := hr
  cases hr
  have hQ1 := hQ _ (List.mem_singleton.mpr rfl)
  have ho : ∀ t, sx_Oc s b ad rs 1 v (.returned (some x)) t := fun t => Or.inr (Or.inl ⟨rfl, x, rfl, hv⟩)
  have ev := hv.t0 (sx_beq c1)
  subst ev
  unfold sx_k43 at hk
  by_cases h0 : sx_wa w = 0
  · rw [if_pos h0] at hk
    rw [sx_beq_t h0, sx_if_t] at c2
    simp only [Bool.and_eq_true, decide_eq_true_eq] at hk
    have hlt : v / 8 < 128 := sx_blt c2
    exact sx_imp (W.zret (Qc := fun _ _ o t => o = .returned (some (.int (Int32.ofNat (v / 8)))) ∧ t.heap = H) (free := A) hx hb (hret.trans hk.1) (sx_fit_b ⟨v / 8, hlt⟩) (fun t h1 _ => ⟨rfl, h1⟩) hS.2.2 (sx_dc_ok hk.2) hlocks) (sx_ended hA hQ1 ho)
  · rw [if_neg h0] at hk
    rw [sx_beq_e h0, sx_if_f] at c2
    simp only [Bool.and_eq_true, decide_eq_true_eq] at hk
    have hlt : v / 8 < 65536 := sx_blt c2
    exact sx_imp (W.zret (Qc := fun _ _ o t => o = .returned (some (.int (Int32.ofNat (v / 8)))) ∧ t.heap = H) (free := A) hx hb (hret.trans hk.1) (sx_fit_c hlt) (fun t h1 _ => ⟨rfl, h1⟩) hS.2.2 (sx_dc_ok hk.2) hlocks) (sx_ended hA hQ1 ho)

theorem sx_sInvW (IH : sx_Ok N ih) (hC : sx_Cx p e R s m meth c D K b N xs A mi d q) (hA : sx_At R s c D K b N xs A ad rs cells slots locs L S h n sy cs ss ls st H) (hL : sx_Ls p l e R s m args below meth c D K b N xs A Q ad rs lst) (hQ : ∀ o ∈ outs, ∀ t, sx_En R s below D K b A ad rs o t → Q t)
    (hMO : sx_MO) (hM : sx_Mok mi q) (hk : sx_k40 q pc w = true) (hr : sx_oInvW ih w d mi (sx_mt mi).1 lst pc L S h n sy cs ss = some outs) : W p l e R s m args below meth c H locs cells slots Q (F0 m pc ls st) := by
  obtain ⟨-, hx, -, hb, hml, -, -, -, hown, -, hT, hSx, -⟩ := id hC
  obtain ⟨hLc, hSt, hrest⟩ := id hA
  obtain ⟨hY, hG, hS, hxs, hrm⟩ := id hrest
  obtain ⟨-, -, K1, K2, ⟨K3, K4, K5⟩, ⟨uu, hu, K6⟩, -⟩ := id hSx
  unfold sx_oInvW at hr
  cases S with
  | nil => cases hr
  | cons v r =>
  rw [sx_p1_cons, sx_rdK_eq] at hr
  unfold sx_k40 at hk
  rw [Bool.and_eq_true] at hk
  simp only [sx_fo_eq] at hr
  cases hc : Nat.beq (Nat.mod (Nat.shiftRight (sx_wb w) (Nat.mod (sx_rd h (sx_pl v)).1 256)) 2) 1 with
  | true => rw [hc, sx_if_t] at hr; exact sx_sInvV IH hC hA hL hQ hMO hM hk.1 hr
  | false => rw [hc, sx_if_f] at hr; exact sx_sInvV IH hC hA hL hQ hMO hM hk.2 hr

def sx_xC (v : Nat × Nat × Nat × Nat) : Bool := sx_oa (sx_ml[v.1]?) (fun t => sx_oa (sx_sl[v.2.2.1]?) (fun z => decide (z.1 = "java/lang/String") && (decide (z.2.1 = t.2.2) && decide (z.2.2 = sx_nam v.2.1))) && (sx_oa (sx_iml[v.2.2.2]?) (fun y => decide (y = sx_nam v.2.1)) && (decide (t.2.2 = sx_nam v.2.1) && (!sx_stl.contains v.2.1 && decide (v.2.1 ≠ 0)))))
theorem sx_xC_ok : sx_xt.all sx_xC = true := by decide +kernel
theorem sx_sInvX (IH : sx_Ok N ih) (hC : sx_Cx p e R s m meth c D K b N xs A mi d q) (hA : sx_At R s c D K b N xs A ad rs cells slots locs L S h n sy cs ss ls st H) (hL : sx_Ls p l e R s m args below meth c D K b N xs A Q ad rs lst) (hQ : ∀ o ∈ outs, ∀ t, sx_En R s below D K b A ad rs o t → Q t)
    (hMO : sx_MO) (hM : sx_Mok mi q) (hk : sx_k39 q pc w = true) (hr : sx_oInvX ih w d mi (sx_mt mi).1 lst pc L S h n sy cs ss = some outs) : W p l e R s m args below meth c H locs cells slots Q (F0 m pc ls st) := by
  obtain ⟨-, hx, -, hb, hml, -, -, -, hown, -, hT, hSx, -⟩ := id hC
  obtain ⟨hLc, hSt, hrest⟩ := id hA
  obtain ⟨hY, hG, hS, hxs, hrm⟩ := id hrest
  obtain ⟨-, -, K1, K2, ⟨K3, K4, K5⟩, ⟨uu, hu, K6⟩, -⟩ := id hSx
  unfold sx_oInvX at hr
  rw [sx_fo_eq, sx_mtK_eq] at hr
  obtain ⟨av, rest, avs', restv, hr, hav, hre, rfl, hl1, hl2⟩ := sx_tk_ok hr hSt (show sx_St b ad rs [] [] from trivial)
  rw [List.append_nil] at hav
  cases av with
  | nil => cases hr
  | cons o at' =>
  obtain ⟨xo, argsL, hrv, ho, hat⟩ := hav.cons
  have hr : sx_if (sx_isS o) (sx_call ih d mi (sx_mt mi).1 lst pc L h n sy cs ss (o :: at') rest (sx_wc w)) none = some outs := hr
  obtain ⟨hs, hr⟩ := sx_if_ok hr
  obtain ⟨k, qq, e1, e2, rfl⟩ := sx_isS_ok hs ho
  unfold sx_k39 at hk
  obtain ⟨t, ht, hk⟩ := sx_oa_ok hk
  simp only [Bool.and_eq_true, decide_eq_true_eq] at hk
  obtain ⟨hcls, hd, hk⟩ := hk
  obtain ⟨v, hv, hk1⟩ := List.any_eq_true.mp hk
  simp only [Bool.and_eq_true, decide_eq_true_eq] at hk1
  obtain ⟨v1, v2⟩ := hk1
  have hvC := List.all_eq_true.mp sx_xC_ok v hv
  unfold sx_xC at hvC
  rw [v1, v2] at hvC
  obtain ⟨t', ht', hvC⟩ := sx_oa_ok hvC
  cases ht.symm.trans ht'
  simp only [Bool.and_eq_true, decide_eq_true_eq] at hvC
  obtain ⟨w1, w2, w3, w4, w5⟩ := hvC
  obtain ⟨z, hz, w1⟩ := sx_oa_ok w1
  simp only [Bool.and_eq_true, decide_eq_true_eq] at w1
  obtain ⟨z1, z2, z3⟩ := w1
  obtain ⟨yy, hyy, w2⟩ := sx_oa_ok w2
  have w2 : yy = sx_nam (sx_wc w) := of_decide_eq_true w2
  obtain ⟨r, hmr⟩ : ∃ r, sx_ms[sx_wc w]? = some r := by
    cases hx0 : sx_ms[sx_wc w]? with
    | some r => exact ⟨r, rfl⟩
    | none =>
      exfalso
      have hb := sx_iml_nn hyy
      rw [w2] at hb
      unfold sx_nam at hb
      rw [hx0] at hb
      exact hb rfl
  have hnam := sx_nam_eq hmr
  rw [hnam] at z3 w2 w3
  have hsel := hT.1 args _ (sx_sl_in hz)
  rw [z1, z2, z3] at hsel
  have hinst := hT.1 args _ (sx_iml_in hyy)
  rw [w2] at hinst
  obtain ⟨cellB, hcB, hoB, hclB, -⟩ := (K1 k qq e2).2.1.kept hS.2.1
  refine sx_inv IH hC hA hL hQ hMO hM hr (avs := .ref (b (2 + k)) :: argsL) (by rw [← hrv]; exact hav) hre hmr w5 (fun T hTH X => ?_)
  have hcj : 0 < (sx_mt (sx_wc w)).1 := sx_call_pos hr
  have hMj := hMO _ r hmr hcj
  have hnB := (hMj.2.2.2.2.2 w5).1
  unfold sx_nB at hnB
  rw [if_neg (by rw [Bool.not_eq_true]; simpa using w4)] at hnB
  have hnB := of_decide_eq_true hnB
  have hlenA : argsL.length + 1 = sx_ia (sx_mt (sx_wc w)).2 := by
    have h1 : avs'.reverse.length = argsL.length + 1 := by rw [hrv]; rfl
    rw [List.length_reverse] at h1
    omega
  have hlen : ∀ sig, parseMethodDescriptor r.1.desc = some sig → argsL.length = sig.parameters.length := by
    intro sig hs
    rw [hs] at hnB
    have : sig.parameters.length + 1 = sx_ia (sx_mt (sx_wc w)).2 := Option.some.inj hnB
    omega
  have hstack : (F0 m pc ls (avs' ++ restv)).stack = argsL.reverse ++ .ref (b (2 + k)) :: restv := by
    show avs' ++ restv = _
    have : avs' = argsL.reverse ++ [.ref (b (2 + k))] := by rw [← List.reverse_reverse avs', hrv, List.reverse_cons]
    rw [this, List.append_assoc]
    rfl
  have hlink : (Cond.methodLink q.1.cls t.2.1 t.2.2).before args s = true := by rw [← hcls]; exact hT.1 args _ (sx_ml_in ht)
  obtain ⟨mk, methM, hnamed, hmethM, hstM, habM⟩ := Cond.instanceMethod_spec hinst
  obtain ⟨mk', methk, ck, n1, n2, -, -, -, -, -, -, hsigM, -⟩ := sx_meth hT w5 hMj
  cases hnamed.symm.trans n1
  cases hmethM.symm.trans n2
  obtain ⟨c2', r2, m2, q1, q2, q3, q4, kP, hkP, hkPi⟩ := Cond.selects_spec hsel
  cases hclB.symm.trans q1
  cases hnamed.symm.trans q3
  have hcT : T.heap[b (2 + k)]? = some cellB := by rw [hTH]; exact hcB
  have hne : ∀ z, cellB.vm ≠ .statics z := fun z hz => by rw [hz] at hoB; cases hoB
  rw [w3] at hlink q2
  cases (State.methodFound?_of_named hnamed hMj.2.2.2.1).symm.trans q2
  have hselP : selectMethod e.platform s.vm cellB.cls mk = .method mk := by rw [Launch.admits_selectMethod X.admits]; exact q4
  obtain ⟨vm₁, X₁, hstep₁⟩ := X.invokevirtual hx hown hlink hnamed hmethM hstM hkP hkPi hMj.2.2.2.1 hcT hne hselP hmethM habM hkP hkPi (g := F0 m pc ls (avs' ++ restv)) rfl (argsL := argsL) (rest := restv) (hlen _ hsigM) hstack (by rw [hb]; exact sx_dc_ok hd)
  exact ⟨vm₁, mk, _, X₁, hnamed, by rw [hb]; exact sx_dc_ok hd, fun target ht => hstep₁ _ fun acts => by rw [doInvoke_state]; exact ht⟩

end SXNops
