/-! sx: cells are made -/
section SXNew
variable {N : Nat} {ih : sx_ih} {w d mi pc n cs ss : Nat} {lst : List sx_I} {L S : List Nat} {h : sx_H} {sy : sx_Y} {outs : List sx_O}
variable {p : Program} {l : Launch} {e : Env} {R : Room} {s : State} {m : MethodId} {args : Array Value} {below : List Frame} {meth : Method} {c : Code} {D : va_G} {K : ClassId → FieldType → Prop} {b : Nat → Nat} {xs : Nat → Int32} {A : Nat → Prop} {q : sx_M}
variable {ad : List Nat} {rs : List Int32} {ls : Array Slot} {st : List Value} {H : Heap} {locs : List Loc} {cells slots : Nat} {Q : State → Prop}
theorem sx_sAlen (IH : sx_Ok N ih) (hC : sx_Cx p e R s m meth c D K b N xs A mi d q) (hA : sx_At R s c D K b N xs A ad rs cells slots locs L S h n sy cs ss ls st H) (hL : sx_Ls p l e R s m args below meth c D K b N xs A Q ad rs lst) (hQ : ∀ o ∈ outs, ∀ t, sx_En R s below D K b A ad rs o t → Q t)
    (hN31 : N < 2 ^ 31) (hk : sx_dc q pc .arraylength 1 = true) (hr : sx_oAlen ih N d mi (sx_mt mi).1 lst pc L S h n sy cs ss = some outs) : W p l e R s m args below meth c H locs cells slots Q (F0 m pc ls st) := by
  obtain ⟨-, hx, -, hb, hml, -, -, -, hown, -, hT, -⟩ := id hC
  obtain ⟨hLc, hSt, hrest⟩ := id hA
  unfold sx_oAlen at hr
  cases S with
  | nil => cases hr
  | cons v r =>
  obtain ⟨x, st', rfl, hv, hSt'⟩ := hSt.cons
  rw [sx_p1_cons] at hr
  obtain ⟨hY, hG, hS, hxs, hrm⟩ := id hrest
  have vI : ∀ k : Nat, sx_V b ad rs (Nat.mul 8 k) (.int (Int32.ofNat k)) := fun k => Or.inl ⟨Nat.mul_mod_right 8 _, by rw [show Nat.mul 8 k / 8 = k from Nat.mul_div_cancel_left _ (by decide)]⟩
  cases h5 : Nat.beq v 5 with
  | true =>
    rw [h5, sx_if_t, sx_fo_eq] at hr
    have e5 : v = 5 := sx_beq h5
    have e := hv.t5 (by rw [e5])
    rw [show b (v / 8) = b 0 by rw [e5]] at e
    subst e
    obtain ⟨-, -, -, -, -, -, -, -, -, -, -, -, hX, hbl, hbA, -⟩ := id hC
    exact va_slen hx hb hX hbl hbA hS (sx_dc_ok hk) (sx_go IH hr hC ⟨hLc, ⟨vI N, hSt'⟩, hrest⟩ hL List.prefix_rfl List.prefix_rfl (fun _ h => h) hQ)
  | false =>
    rw [h5, sx_if_f] at hr
    obtain ⟨hc, hr⟩ := sx_if_ok hr
    obtain ⟨c1, -⟩ := sx_and_ok hc
    simp only [sx_rdK_eq, sx_fo_eq] at hr
    obtain ⟨k1, hr⟩ := sx_if_ok hr
    have k1 : 100 ≤ (sx_rd h (v / 8)).1 % 256 := sx_ble k1
    obtain ⟨a, ha, rfl⟩ := hv.t2 (sx_beq c1)
    obtain ⟨ws, ee, hP, hD, g3, g4, g5, g6, he, hE⟩ := hG.at ha
    have go : W p l e R s m args below meth c H locs cells slots Q (F0 m (pc + 1) ls (.int (Int32.ofNat ((sx_rd h (v / 8)).1 / 256)) :: st')) := sx_go IH hr hC ⟨hLc, ⟨vI _, hSt'⟩, hrest⟩ hL List.prefix_rfl List.prefix_rfl (fun _ h => h) hQ
    rcases hE with ⟨ci, fs, -, e2, ⟨C, e3, -⟩, -⟩ | ⟨cA, f, rfl, e2, e3, e4⟩ | ⟨cA, f, rfl, e2, e3, e4⟩ | ⟨cA, f, rfl, e2, e3, e4⟩
    · have := (List.getElem?_eq_some_iff.mp e3).1; rw [sx_fl_len.2] at this; omega
    · exact va_alen hx hb (sx_KA hT e3.1) hP (v / 8) 0 he rfl rfl (sx_dc_ok hk) go
    · exact va_alen hx hb (sx_KA hT e3.1) hP (v / 8) 0 he rfl rfl (sx_dc_ok hk) go
    · exact va_alen hx hb (sx_KA hT e3.1) hP (v / 8) 0 he rfl rfl (sx_dc_ok hk) go
theorem sx_mk_ok {hd ct len ln : Nat} (hr : sx_mk ih d mi (sx_mt mi).1 lst pc L h n sy cs ss hd ct len ln S = some outs) : n < 256 ∧ cs < 600002 ∧ ss + len ≤ 7302232 ∧ ih d mi (sx_mt mi).1 lst false (Nat.add pc ln) L (Nat.add (Nat.mul 8 n) 2 :: S) (sx_wr h n (hd, ct)) (n + 1) sy (cs + 1) (ss + len) = some outs := by
  unfold sx_mk at hr
  obtain ⟨hc, hr⟩ := sx_if_ok hr
  obtain ⟨c1, hc⟩ := sx_and_ok hc
  obtain ⟨c2, c3⟩ := sx_and_ok hc
  simp only [sx_fo_eq, sx_wrK_eq] at hr
  exact ⟨sx_blt c1, sx_blt c2, sx_ble c3, hr⟩
theorem sx_new_V {a : Nat} (h4 : ad.length = n) : sx_V b (ad ++ [a]) rs (Nat.add (Nat.mul 8 n) 2) (.ref a) := by
  have e : Nat.add (Nat.mul 8 n) 2 = 8 * n + 2 := rfl
  rw [e]
  refine Or.inr (Or.inr (Or.inl ⟨by omega, a, ?_, rfl⟩))
  rw [show (8 * n + 2) / 8 = ad.length by omega, List.getElem?_append_right (Nat.le_refl _), Nat.sub_self]
  rfl
theorem sx_sNew (IH : sx_Ok N ih) (hC : sx_Cx p e R s m meth c D K b N xs A mi d q) (hA : sx_At R s c D K b N xs A ad rs cells slots locs L S h n sy cs ss ls st H) (hL : sx_Ls p l e R s m args below meth c D K b N xs A Q ad rs lst) (hQ : ∀ o ∈ outs, ∀ t, sx_En R s below D K b A ad rs o t → Q t)
    (hk : sx_k18 q pc w = true) (hr : sx_oNew ih w d mi (sx_mt mi).1 lst pc L S h n sy cs ss = some outs) : W p l e R s m args below meth c H locs cells slots Q (F0 m pc ls st) := by
  obtain ⟨-, hx, -, hb, hml, -, -, -, hown, -, hT, -⟩ := id hC
  obtain ⟨hLc, hSt, hrest⟩ := id hA
  unfold sx_oNew at hr
  obtain ⟨t2, ht2, hr⟩ := sx_opt_ok hr
  rw [sx_nth_eq] at ht2
  obtain ⟨n1, n2, n3, hr⟩ := sx_mk_ok hr
  unfold sx_k18 at hk
  obtain ⟨t, ht, hk⟩ := sx_oa_ok hk
  simp only [Bool.and_eq_true, decide_eq_true_eq] at hk
  obtain ⟨hcls, hd, hk, hb12⟩ := hk
  obtain ⟨C, hC1, hk⟩ := sx_oa_ok hk
  have hCn : C.1 = t.2.2 := of_decide_eq_true hk
  have hrD := List.all_eq_true.mp sx_rD_ok (sx_wb w) (List.mem_range.mpr hb12)
  unfold sx_rD at hrD
  obtain ⟨C', hC1', hrD⟩ := sx_oa_ok hrD
  cases hC1.symm.trans hC1'
  obtain ⟨t2', ht2', hrD⟩ := sx_oa_ok hrD
  cases ht2.symm.trans ht2'
  simp only [Bool.and_eq_true, decide_eq_true_eq] at hrD
  obtain ⟨d1, d2, d3⟩ := hrD
  have hin := sx_cls_in hC1
  obtain ⟨C0, C1, C2⟩ := C
  dsimp only at hin d1 d3 hCn
  obtain ⟨hY, hG, hS, hxs, hr1, hr2, hr3⟩ := id hrest
  obtain ⟨ws, hP, hD, g3, g4, g5, g6⟩ := hG
  have hAl := (id hC).2.2.2.2.2.2.2.2.2.2.2.2.2.2.2.1
  have hdiv : Nat.div t2.1 256 = C2 := by rw [d1]; show (sx_wb w + 256 * C2) / 256 = C2; omega
  rw [hdiv] at n3 hr
  refine va_new (ci := sx_wb w) (C := C0) (T := C1) (N := C2) (fs := (List.range C2).map (fun j => defaultValue (sx_fty (C1 j).2.2.1))) hx hb (hT.1 args) hin.1 (fun k => sx_fty (C1 k).2.2.1) hin.2.1 hown (index := t.2.1) (by rw [hCn, ← hcls]; exact hT.1 args _ (sx_cl_in ht)) (hT.1 args _ hin.2.2.1) (hT.1 args _ hin.2.2.2.1) hT.2.2.2.2.2.1 hP hD hS hAl hC1 (fun j hj => ?_) (by omega) (by omega) (sx_dc_ok hd) (fun qa H1 hP1 hD1 hS1 => ?_)
  · unfold vp_V
    rw [List.getD_eq_getElem?_getD, List.getElem?_map, List.getElem?_range hj]
    rfl
  · refine sx_go IH hr hC ⟨hLc.mono (List.prefix_append _ _) List.prefix_rfl, ⟨sx_new_V g4, hSt.mono (List.prefix_append _ _) List.prefix_rfl⟩, hY, sx_G.push g3 g4 n1 g6 hP1 hD1 ?_, hS1, hxs, by omega, by omega, hr3⟩ hL (List.prefix_append _ _) List.prefix_rfl (fun _ h => h) hQ
    refine Or.inl ⟨sx_wb w, _, rfl, by rw [d1]; show (sx_wb w + 256 * C2) % 256 = sx_wb w; omega, ⟨_, hC1, by simp⟩, by rw [List.length_map, List.length_range]; exact hdiv.symm, fun j u hu => ?_⟩
    rw [List.getElem?_map] at hu
    have hj : j < C2 := by
      rcases Nat.lt_or_ge j C2 with z | z
      · exact z
      · rw [List.getElem?_eq_none (by rw [List.length_range]; exact z)] at hu; cases hu
    rw [List.getElem?_range hj] at hu
    cases hu
    have h3 := List.all_eq_true.mp d3 j (List.mem_range.mpr hj)
    dsimp only at h3 ⊢
    split at h3
    · rename_i z hz
      simp only [Bool.and_eq_true, decide_eq_true_eq] at h3
      rw [hz, h3.1, h3.2]
      exact Or.inl ⟨rfl, rfl⟩
    · rename_i hz
      rw [hz, of_decide_eq_true h3]
      exact Or.inr (Or.inr (Or.inr (Or.inl ⟨rfl, rfl⟩)))
    · cases h3
theorem sx_acI : Cond.arrayClass .int ∈ sx_wl := sx_isW_ok (by decide +kernel)
theorem sx_acL : Cond.arrayClass .long ∈ sx_wl := sx_isW_ok (by decide +kernel)
theorem sx_sNewI (IH : sx_Ok N ih) (hC : sx_Cx p e R s m meth c D K b N xs A mi d q) (hA : sx_At R s c D K b N xs A ad rs cells slots locs L S h n sy cs ss ls st H) (hL : sx_Ls p l e R s m args below meth c D K b N xs A Q ad rs lst) (hQ : ∀ o ∈ outs, ∀ t, sx_En R s below D K b A ad rs o t → Q t)
    (hk : sx_dc q pc (.newarray .int) 2 = true) (hr : sx_oNewa ih d mi (sx_mt mi).1 lst pc L S h n sy cs ss 100 2 = some outs) : W p l e R s m args below meth c H locs cells slots Q (F0 m pc ls st) := by
  obtain ⟨-, hx, -, hb, hml, -, -, -, hown, -, hT, -⟩ := id hC
  obtain ⟨hLc, hSt, hrest⟩ := id hA
  unfold sx_oNewa at hr
  cases S with
  | nil => cases hr
  | cons v r =>
  obtain ⟨x0, st', rfl, hv, hSt'⟩ := hSt.cons
  rw [sx_p1_cons] at hr
  obtain ⟨hY, hG, hS, hxs, hr1, hr2, hr3⟩ := id hrest
  obtain ⟨x, sy', outs', rfl, hr, hsub, hY', -⟩ := sx_ix_ok hr hY hv
  obtain ⟨k5, hr⟩ := sx_if_ok hr
  have k5 : x ≤ 5000 := sx_ble k5
  rw [sx_fo_eq] at hr
  obtain ⟨n1, n2, n3, hr⟩ := sx_mk_ok hr
  obtain ⟨ws, hP, hD, g3, g4, g5, g6⟩ := hG
  have hAl := (id hC).2.2.2.2.2.2.2.2.2.2.2.2.2.2.2.1
  have hz : ¬ Int32.ofNat x < 0 := nI_pos (n := x) (by omega)
  have hcl : (Int32.ofNat x).toNatClampNeg = x := nI_clamp (n := x) (by omega)
  have hg0 : ∀ j : Nat, sx_get 0 j = 0 := fun j => by rw [sx_get_eq]; simp
  have hdv : Nat.add 100 (Nat.mul 256 x) / 256 = x := by show (100 + 256 * x) / 256 = x; omega
  have hmd : Nat.add 100 (Nat.mul 256 x) % 256 = 100 := by show (100 + 256 * x) % 256 = 100; omega
  refine va_newa (atype := .int) (a0 := (x, .inl (fun _ => 0))) (ty := .int) hx hb (hT.1 args _ sx_acI) rfl hT.2.2.2.2.2.1 hP hD hS hAl (fun cA => rfl) hz hcl (by show x * 4 ≤ 536870912; omega) (by omega) (by omega) (sx_dc_ok hk) (fun qa cA H1 hK1 hP1 hD1 hS1 => ?_)
  refine sx_go IH hr hC ⟨hLc.mono (List.prefix_append _ _) List.prefix_rfl, ⟨sx_new_V g4, hSt'.mono (List.prefix_append _ _) List.prefix_rfl⟩, hY', sx_G.push g3 g4 n1 g6 hP1 hD1 ?_, hS1, hxs, by omega, by omega, hr3⟩ hL (List.prefix_append _ _) List.prefix_rfl hsub hQ
  have hKc : K cA .int := (hT.2.2.2.2.2.2 cA .int).mpr (hK1.2 0 (cA, .int) rfl)
  exact Or.inr (Or.inl ⟨cA, fun _ => 0, by rw [hdv], hmd, ⟨hKc, by rw [hdv]; exact k5⟩, fun j _ => by show sx_V b _ rs (sx_get 0 j) _; rw [hg0]; exact Or.inl ⟨rfl, rfl⟩⟩)
theorem sx_sNewL (IH : sx_Ok N ih) (hC : sx_Cx p e R s m meth c D K b N xs A mi d q) (hA : sx_At R s c D K b N xs A ad rs cells slots locs L S h n sy cs ss ls st H) (hL : sx_Ls p l e R s m args below meth c D K b N xs A Q ad rs lst) (hQ : ∀ o ∈ outs, ∀ t, sx_En R s below D K b A ad rs o t → Q t)
    (hk : sx_dc q pc (.newarray .long) 2 = true) (hr : sx_oNewa ih d mi (sx_mt mi).1 lst pc L S h n sy cs ss 101 2 = some outs) : W p l e R s m args below meth c H locs cells slots Q (F0 m pc ls st) := by
  obtain ⟨-, hx, -, hb, hml, -, -, -, hown, -, hT, -⟩ := id hC
  obtain ⟨hLc, hSt, hrest⟩ := id hA
  unfold sx_oNewa at hr
  cases S with
  | nil => cases hr
  | cons v r =>
  obtain ⟨x0, st', rfl, hv, hSt'⟩ := hSt.cons
  rw [sx_p1_cons] at hr
  obtain ⟨hY, hG, hS, hxs, hr1, hr2, hr3⟩ := id hrest
  obtain ⟨x, sy', outs', rfl, hr, hsub, hY', -⟩ := sx_ix_ok hr hY hv
  obtain ⟨k5, hr⟩ := sx_if_ok hr
  have k5 : x ≤ 5000 := sx_ble k5
  rw [sx_fo_eq] at hr
  obtain ⟨n1, n2, n3, hr⟩ := sx_mk_ok hr
  obtain ⟨ws, hP, hD, g3, g4, g5, g6⟩ := hG
  have hAl := (id hC).2.2.2.2.2.2.2.2.2.2.2.2.2.2.2.1
  have hz : ¬ Int32.ofNat x < 0 := nI_pos (n := x) (by omega)
  have hcl : (Int32.ofNat x).toNatClampNeg = x := nI_clamp (n := x) (by omega)
  have hg0 : ∀ j : Nat, sx_get 0 j = 0 := fun j => by rw [sx_get_eq]; simp
  have hdv : Nat.add 101 (Nat.mul 256 x) / 256 = x := by show (101 + 256 * x) / 256 = x; omega
  have hmd : Nat.add 101 (Nat.mul 256 x) % 256 = 101 := by show (101 + 256 * x) % 256 = 101; omega
  refine va_newa (atype := .long) (a0 := (x, .inr (.inl (fun _ => 0)))) (ty := .long) hx hb (hT.1 args _ sx_acL) rfl hT.2.2.2.2.2.1 hP hD hS hAl (fun cA => rfl) hz hcl (by show x * 8 ≤ 536870912; omega) (by omega) (by omega) (sx_dc_ok hk) (fun qa cA H1 hK1 hP1 hD1 hS1 => ?_)
  refine sx_go IH hr hC ⟨hLc.mono (List.prefix_append _ _) List.prefix_rfl, ⟨sx_new_V g4, hSt'.mono (List.prefix_append _ _) List.prefix_rfl⟩, hY', sx_G.push g3 g4 n1 g6 hP1 hD1 ?_, hS1, hxs, by omega, by omega, hr3⟩ hL (List.prefix_append _ _) List.prefix_rfl hsub hQ
  have hKc : K cA .long := (hT.2.2.2.2.2.2 cA .long).mpr (hK1.2 0 (cA, .long) rfl)
  exact Or.inr (Or.inr (Or.inl ⟨cA, fun _ => 0, by rw [hdv], hmd, ⟨hKc, by rw [hdv]; exact k5⟩, fun j _ => by show sx_get 0 j % 8 = 0 ∧ (0 : Int64) = Int64.ofNat (sx_get 0 j / 8); rw [hg0]; exact ⟨rfl, rfl⟩⟩))
theorem sx_sNewQ (IH : sx_Ok N ih) (hC : sx_Cx p e R s m meth c D K b N xs A mi d q) (hA : sx_At R s c D K b N xs A ad rs cells slots locs L S h n sy cs ss ls st H) (hL : sx_Ls p l e R s m args below meth c D K b N xs A Q ad rs lst) (hQ : ∀ o ∈ outs, ∀ t, sx_En R s below D K b A ad rs o t → Q t)
    (hk : sx_k20 q pc w = true) (hr : sx_oNewa ih d mi (sx_mt mi).1 lst pc L S h n sy cs ss 102 3 = some outs) : W p l e R s m args below meth c H locs cells slots Q (F0 m pc ls st) := by
  obtain ⟨-, hx, -, hb, hml, -, -, -, hown, -, hT, -⟩ := id hC
  obtain ⟨hLc, hSt, hrest⟩ := id hA
  unfold sx_oNewa at hr
  cases S with
  | nil => cases hr
  | cons v r =>
  obtain ⟨x0, st', rfl, hv, hSt'⟩ := hSt.cons
  rw [sx_p1_cons] at hr
  obtain ⟨hY, hG, hS, hxs, hr1, hr2, hr3⟩ := id hrest
  obtain ⟨x, sy', outs', rfl, hr, hsub, hY', -⟩ := sx_ix_ok hr hY hv
  obtain ⟨k5, hr⟩ := sx_if_ok hr
  have k5 : x ≤ 5000 := sx_ble k5
  rw [sx_fo_eq] at hr
  obtain ⟨n1, n2, n3, hr⟩ := sx_mk_ok hr
  obtain ⟨ws, hP, hD, g3, g4, g5, g6⟩ := hG
  have hAl := (id hC).2.2.2.2.2.2.2.2.2.2.2.2.2.2.2.1
  have hz : ¬ Int32.ofNat x < 0 := nI_pos (n := x) (by omega)
  have hcl : (Int32.ofNat x).toNatClampNeg = x := nI_clamp (n := x) (by omega)
  have hg0 : ∀ j : Nat, sx_get 0 j = 0 := fun j => by rw [sx_get_eq]; simp
  have hdv : Nat.add 102 (Nat.mul 256 x) / 256 = x := by show (102 + 256 * x) / 256 = x; omega
  have hmd : Nat.add 102 (Nat.mul 256 x) % 256 = 102 := by show (102 + 256 * x) % 256 = 102; omega
  unfold sx_k20 at hk
  obtain ⟨t, ht, hk⟩ := sx_oa_ok hk
  simp only [Bool.and_eq_true, decide_eq_true_eq] at hk
  obtain ⟨hcls, hd, hC3⟩ := hk
  refine va_newq (C := "AbsentRings$Table") hx hb hown (index := t.2.1) (by rw [← hC3, ← hcls]; exact hT.1 args _ (sx_cl_in ht)) hT.2.2.2.2.1 hT.2.2.2.2.2.1 hP hD hS hAl hz hcl (by omega) (by omega) (by omega) (sx_dc_ok hd) (fun qa cA H1 hK1 hP1 hD1 hS1 => ?_)
  refine sx_go IH hr hC ⟨hLc.mono (List.prefix_append _ _) List.prefix_rfl, ⟨sx_new_V g4, hSt'.mono (List.prefix_append _ _) List.prefix_rfl⟩, hY', sx_G.push g3 g4 n1 g6 hP1 hD1 ?_, hS1, hxs, by omega, by omega, hr3⟩ hL (List.prefix_append _ _) List.prefix_rfl hsub hQ
  have hKc : K cA (.object "AbsentRings$Table") := (hT.2.2.2.2.2.2 cA _).mpr (hK1.2 0 (cA, .object "AbsentRings$Table") rfl)
  exact Or.inr (Or.inr (Or.inr ⟨cA, fun _ => none, by rw [hdv], hmd, ⟨hKc, by rw [hdv]; exact k5⟩, fun j _ => Or.inl ⟨hg0 j, rfl⟩⟩))
end SXNew
