/-! sx: calls of static methods and of constructors, switches -/
section SXInvS
variable {N : Nat} {ih : sx_ih} {w d mi pc n cs ss : Nat} {lst : List sx_I} {L S : List Nat} {h : sx_H} {sy : sx_Y} {outs : List sx_O}
variable {p : Program} {l : Launch} {e : Env} {R : Room} {s : State} {m : MethodId} {args : Array Value} {below : List Frame} {meth : Method} {c : Code} {D : va_G} {K : ClassId → FieldType → Prop} {b : Nat → Nat} {xs : Nat → Int32} {A : Nat → Prop} {q : sx_M}
variable {ad : List Nat} {rs : List Int32} {ls : Array Slot} {st : List Value} {H : Heap} {locs : List Loc} {cells slots : Nat} {Q : State → Prop}
theorem sx_sInvS (IH : sx_Ok N ih) (hC : sx_Cx p e R s m meth c D K b N xs A mi d q) (hA : sx_At R s c D K b N xs A ad rs cells slots locs L S h n sy cs ss ls st H) (hL : sx_Ls p l e R s m args below meth c D K b N xs A Q ad rs lst) (hQ : ∀ o ∈ outs, ∀ t, sx_En R s below D K b A ad rs o t → Q t)
    (hMO : sx_MO) (hM : sx_Mok mi q) (hk : sx_k22 q pc w = true) (hr : sx_oInv ih w d mi (sx_mt mi).1 lst pc L S h n sy cs ss false = some outs) : W p l e R s m args below meth c H locs cells slots Q (F0 m pc ls st) := by
  obtain ⟨-, hx, -, hb, hml, -, -, -, hown, -, hT, -⟩ := id hC
  obtain ⟨hLc, hSt, hrest⟩ := id hA
  unfold sx_oInv at hr
  rw [sx_fo_eq, sx_mtK_eq] at hr
  obtain ⟨av, rest, avs', restv, hr, hav, hre, rfl, hl1, hl2⟩ := sx_tk_ok hr hSt (show sx_St b ad rs [] [] from trivial)
  rw [List.append_nil] at hav
  have hr : sx_call ih d mi (sx_mt mi).1 lst pc L h n sy cs ss av rest (sx_wc w) = some outs := hr
  unfold sx_k22 at hk
  rw [Bool.and_eq_true] at hk
  obtain ⟨hk1, hk⟩ := hk
  obtain ⟨r, hmr, hk⟩ := sx_oa_ok hk
  obtain ⟨v, hv, hk1⟩ := List.any_eq_true.mp hk1
  have hk1 : v.1 = sx_wc w := of_decide_eq_true hk1
  have hvC := List.all_eq_true.mp sx_sC_ok v hv
  unfold sx_sC at hvC
  simp only [Bool.and_eq_true, decide_eq_true_eq] at hvC
  obtain ⟨v1, v2, w5⟩ := hvC
  rw [hk1] at v1 v2 w5
  have hnam := sx_nam_eq hmr
  obtain ⟨yy, hyy, v2⟩ := sx_oa_ok v2
  have v2 : yy = (sx_nam (sx_wc w)).cls := of_decide_eq_true v2
  rw [hnam] at v2
  refine sx_inv IH hC hA hL hQ hMO hM hr (avs := avs'.reverse) hav hre hmr w5 (fun T hTH X => ?_)
  have hcj : 0 < (sx_mt (sx_wc w)).1 := sx_call_pos hr
  have hMj := hMO _ r hmr hcj
  have hnB := (hMj.2.2.2.2.2 w5).1
  unfold sx_nB at hnB
  rw [if_pos v1] at hnB
  have hnB := of_decide_eq_true hnB
  have hlen : ∀ sig, parseMethodDescriptor r.1.desc = some sig → avs'.reverse.length = sig.parameters.length := by
    intro sig hs
    rw [hs] at hnB
    have : sig.parameters.length = sx_ia (sx_mt (sx_wc w)).2 := Option.some.inj hnB
    rw [List.length_reverse]
    omega
  have hstack : (F0 m pc ls (avs' ++ restv)).stack = avs'.reverse.reverse ++ restv := by rw [List.reverse_reverse]
  obtain ⟨mk, methk, ck, n1, n2, -, -, -, -, -, -, hsigM, -⟩ := sx_meth hT w5 hMj
  have hstat : (Cond.static r.1).before args s = true := by rw [← hnam]; exact hT.1 args _ (sx_st_in v1)
  have hstatic : methk.isStatic = true := Cond.static_spec n1 n2 hstat
  obtain ⟨kP, hkP, -⟩ := className_of_methodNamed n1
  have hinitP : kP.init = .initialized := Cond.initialized_spec (findClass_of_methodNamed n1) hkP (by rw [← v2]; exact hT.1 args _ (sx_izl_in (List.mem_of_getElem? hyy)))
  by_cases hw0 : sx_wb w = 0
  · rw [if_pos hw0] at hk
    obtain ⟨t, ht, hk⟩ := sx_oa_ok hk
    simp only [Bool.and_eq_true, decide_eq_true_eq] at hk
    obtain ⟨hcls, hd, hty⟩ := hk
    have hlink : (Cond.methodLink q.1.cls t.2.1 r.1).before args s = true := by rw [← hcls, ← hty]; exact hT.1 args _ (sx_ml_in ht)
    obtain ⟨vm₁, X₁, hstep₁⟩ := X.invokestatic hx hown hlink n1 n2 hstatic hkP hinitP hMj.2.2.2.1 (g := F0 m pc ls (avs' ++ restv)) rfl (argsL := avs'.reverse) (rest := restv) (hlen _ hsigM) hstack (by rw [hb]; exact sx_dc_ok hd)
    exact ⟨vm₁, mk, _, X₁, n1, by rw [hb]; exact sx_dc_ok hd, fun target ht => hstep₁ _ fun acts => by rw [doInvoke_state]; exact ht⟩
  · rw [if_neg hw0] at hk
    obtain ⟨t, ht, hk⟩ := sx_oa_ok hk
    simp only [Bool.and_eq_true, decide_eq_true_eq] at hk
    obtain ⟨hcls, hd, hty⟩ := hk
    have hlink : (Cond.methodLinkNest q.1.cls t.2.1 r.1 t.2.2.2).before args s = true := by rw [← hcls, ← hty]; exact sx_nl_in hT ht
    obtain ⟨vm₁, X₁, hstep₁⟩ := X.invokestaticNest hx hown hlink n1 n2 hstatic hkP hinitP hMj.2.2.2.1 (g := F0 m pc ls (avs' ++ restv)) rfl (argsL := avs'.reverse) (rest := restv) (hlen _ hsigM) hstack (by rw [hb]; exact sx_dc_ok hd)
    exact ⟨vm₁, mk, _, X₁, n1, by rw [hb]; exact sx_dc_ok hd, fun target ht => hstep₁ _ fun acts => by rw [doInvoke_state]; exact ht⟩
theorem sx_sInvI (IH : sx_Ok N ih) (hC : sx_Cx p e R s m meth c D K b N xs A mi d q) (hA : sx_At R s c D K b N xs A ad rs cells slots locs L S h n sy cs ss ls st H) (hL : sx_Ls p l e R s m args below meth c D K b N xs A Q ad rs lst) (hQ : ∀ o ∈ outs, ∀ t, sx_En R s below D K b A ad rs o t → Q t)
    (hMO : sx_MO) (hM : sx_Mok mi q) (hk : sx_k23 q pc w = true) (hr : sx_oInvI ih w d mi (sx_mt mi).1 lst pc L S h n sy cs ss = some outs) : W p l e R s m args below meth c H locs cells slots Q (F0 m pc ls st) := by
  obtain ⟨-, hx, -, hb, hml, -, -, -, hown, -, hT, -⟩ := id hC
  obtain ⟨hLc, hSt, hrest⟩ := id hA
  unfold sx_oInvI at hr
  rw [sx_fo_eq, sx_mtK_eq] at hr
  obtain ⟨av, rest, avs', restv, hr, hav, hre, rfl, hl1, hl2⟩ := sx_tk_ok hr hSt (show sx_St b ad rs [] [] from trivial)
  rw [List.append_nil] at hav
  cases av with
  | nil => cases hr
  | cons o at' =>
  obtain ⟨xo, argsL, hrv, ho, hat⟩ := hav.cons
  have hr : sx_if (sx_and (Nat.beq (sx_tg o) 2) (Nat.blt (sx_pl o) n)) (sx_call ih d mi (sx_mt mi).1 lst pc L h n sy cs ss (o :: at') rest (sx_wc w)) none = some outs := hr
  obtain ⟨hc, hr⟩ := sx_if_ok hr
  obtain ⟨c1, -⟩ := sx_and_ok hc
  obtain ⟨a, ha, rfl⟩ := ho.t2 (sx_beq c1)
  unfold sx_k23 at hk
  rw [Bool.and_eq_true] at hk
  obtain ⟨hk1, hk⟩ := hk
  obtain ⟨r, hmr, hk⟩ := sx_oa_ok hk
  obtain ⟨v, hv, hk1⟩ := List.any_eq_true.mp hk1
  have hk1 : v.1 = sx_wc w := of_decide_eq_true hk1
  have hvC := List.all_eq_true.mp sx_iC_ok v hv
  unfold sx_iC at hvC
  simp only [Bool.and_eq_true, decide_eq_true_eq] at hvC
  obtain ⟨v1, v2, w5, v3, v4⟩ := hvC
  rw [hk1] at v1 v2 w5 v3 v4
  obtain ⟨r', hmr', v4⟩ := sx_oa_ok v4
  cases hmr.symm.trans hmr'
  simp only [Bool.and_eq_true, decide_eq_true_eq] at v4
  obtain ⟨hret, hnoh⟩ := v4
  have hnam := sx_nam_eq hmr
  obtain ⟨yy, hyy, v1⟩ := sx_oa_ok v1
  have v1 : yy = sx_nam (sx_wc w) := of_decide_eq_true v1
  rw [hnam] at v1 v3
  have hinst : (Cond.instanceMethod r.1).before args s = true := by rw [← v1]; exact hT.1 args _ (sx_iml_in hyy)
  refine sx_inv IH hC hA hL hQ hMO hM hr (avs := .ref a :: argsL) (by rw [← hrv]; exact hav) hre hmr w5 (fun T hTH X => ?_)
  have hcj : 0 < (sx_mt (sx_wc w)).1 := sx_call_pos hr
  have hMj := hMO _ r hmr hcj
  have hnB := (hMj.2.2.2.2.2 w5).1
  unfold sx_nB at hnB
  rw [if_neg (by rw [Bool.not_eq_true]; simpa using v2)] at hnB
  have hnB := of_decide_eq_true hnB
  have hlenA : argsL.length + 1 = sx_ia (sx_mt (sx_wc w)).2 := by
    have h1 : avs'.reverse.length = argsL.length + 1 := by rw [hrv]; rfl
    rw [List.length_reverse] at h1
    omega
  have hlen : ∀ sig, parseMethodDescriptor r.1.desc = some sig → argsL.length = sig.parameters.length := by
    intro sig hs
    rw [hs] at hnB
    have : sig.parameters.length + 1 = sx_ia (sx_mt (sx_wc w)).2 := Option.some.inj hnB
    omega
  have hstack : (F0 m pc ls (avs' ++ restv)).stack = argsL.reverse ++ .ref a :: restv := by
    show avs' ++ restv = _
    have : avs' = argsL.reverse ++ [.ref a] := by rw [← List.reverse_reverse avs', hrv, List.reverse_cons]
    rw [this, List.append_assoc]
    rfl
  have hcode : (Cond.code r.1 r.2.1 r.2.2.1 none).before args s = true := by rw [← hret]; exact hT.1 args _ ((hMj.2.2.2.2.2 w5).2.1 hnoh)
  have hpl : e.platform.magicAccessors = ({} : Platform).magicAccessors := by rw [X.admits.platform]
  by_cases hw0 : sx_wb w = 0
  · rw [if_pos hw0] at hk
    obtain ⟨t, ht, hk⟩ := sx_oa_ok hk
    simp only [Bool.and_eq_true, decide_eq_true_eq] at hk
    obtain ⟨hcls, hd, hty⟩ := hk
    have hlink : (Cond.methodLink q.1.cls t.2.1 r.1).before args s = true := by rw [← hcls, ← hty]; exact hT.1 args _ (sx_ml_in ht)
    obtain ⟨mk, methM, cM, kP, vm₁, hnamed, hmethM, hcodeM, -, hlocalsM, -, hkP, -, hW₁, hstep₁⟩ := Steps.initColdArgs (e := e) X.here hx X.warmed hpl hown v3 hMj.2.2.2.1 hlink hinst hcode (f := F0 m pc ls (avs' ++ restv)) rfl hlen hstack (by rw [hb]; exact sx_dc_ok hd)
    exact ⟨vm₁, mk, _, X.noted hW₁, hnamed, by rw [hb]; exact sx_dc_ok hd, fun target ht => hstep₁ _ fun acts => by rw [doInvoke_state]; exact ht⟩
  · rw [if_neg hw0] at hk
    obtain ⟨t, ht, hk⟩ := sx_oa_ok hk
    simp only [Bool.and_eq_true, decide_eq_true_eq] at hk
    obtain ⟨hcls, hd, hty⟩ := hk
    have hlink : (Cond.methodLinkNest q.1.cls t.2.1 r.1 t.2.2.2).before args s = true := by rw [← hcls, ← hty]; exact sx_nl_in hT ht
    obtain ⟨mk, methM, cM, kP, vm₁, hnamed, hmethM, hcodeM, -, hlocalsM, -, hkP, -, hW₁, hstep₁⟩ := Steps.initColdArgsNest (e := e) X.here hx X.warmed hpl hown v3 hMj.2.2.2.1 hlink hinst hcode (f := F0 m pc ls (avs' ++ restv)) rfl hlen hstack (by rw [hb]; exact sx_dc_ok hd)
    exact ⟨vm₁, mk, _, X.noted hW₁, hnamed, by rw [hb]; exact sx_dc_ok hd, fun target ht => hstep₁ _ fun acts => by rw [doInvoke_state]; exact ht⟩
theorem sx_sw1 (hx : p.tables.exec = Jvm.exec) (hb : c.code = q.2.1) (hk : sx_k37 q pc w = true) {t : Nat × Nat × List Nat × Nat} (ht : sx_tsw[sx_wa w]? = some t) {z : Int32} {rest : List Value} (go : W p l e R s m args below meth c H locs cells slots Q (F0 m (sx_tg1 t (sx_b z)) ls rest)) : W p l e R s m args below meth c H locs cells slots Q (F0 m pc ls (.int z :: rest)) := by
  unfold sx_k37 at hk
  obtain ⟨t', ht', hk⟩ := sx_oa_ok hk
  cases ht.symm.trans ht'
  simp only [Bool.and_eq_true, decide_eq_true_eq] at hk
  obtain ⟨k1, k2, k3, k4, hd⟩ := hk
  have hd := sx_dc_ok hd
  have hz := sx_b_int z
  unfold sx_tg1 at go
  rw [sx_nth_eq] at go
  have tof : ∀ x : Nat, (pc : Int) + sx_of pc x = (x : Int) := fun x => by unfold sx_of; omega
  by_cases hlo : t.2.1 ≤ sx_b z
  · rw [Nat.ble_eq_true_of_le hlo, sx_if_t] at go
    by_cases hhi : sx_b z - t.2.1 < t.2.2.1.length
    · rw [show Nat.sub (sx_b z) t.2.1 = sx_b z - t.2.1 from rfl, List.getElem?_eq_getElem hhi] at go
      refine lv_tableIn hx hb hd (off := sx_of pc t.2.2.1[sx_b z - t.2.1]) (by omega) (by omega) ?_ (tof _) go
      rw [show (z.toInt - ((t.2.1 : Int) - 2147483648)).toNat = sx_b z - t.2.1 by omega]
      simp [List.getElem?_eq_getElem hhi]
    · rw [show Nat.sub (sx_b z) t.2.1 = sx_b z - t.2.1 from rfl, List.getElem?_eq_none (by omega)] at go
      exact lv_tableOut hx hb hd (Or.inr (by omega)) (tof _) go
  · rw [sx_ble_e hlo, sx_if_f] at go
    exact lv_tableOut hx hb hd (Or.inl (by omega)) (tof _) go
theorem sx_tg1_lo {t : Nat × Nat × List Nat × Nat} {z : Nat} (h : z < t.2.1) : sx_tg1 t z = t.1 := by
  unfold sx_tg1
  rw [sx_ble_e (by omega), sx_if_f]
theorem sx_tg1_hi {t : Nat × Nat × List Nat × Nat} {z : Nat} (h : t.2.1 + t.2.2.1.length ≤ z) : sx_tg1 t z = t.1 := by
  unfold sx_tg1
  rw [Nat.ble_eq_true_of_le (by omega), sx_if_t, sx_nth_eq, show Nat.sub z t.2.1 = z - t.2.1 from rfl, List.getElem?_eq_none (by omega)]
theorem sx_sSw (IH : sx_Ok N ih) (hC : sx_Cx p e R s m meth c D K b N xs A mi d q) (hA : sx_At R s c D K b N xs A ad rs cells slots locs L S h n sy cs ss ls st H) (hL : sx_Ls p l e R s m args below meth c D K b N xs A Q ad rs lst) (hQ : ∀ o ∈ outs, ∀ t, sx_En R s below D K b A ad rs o t → Q t)
    (hk : sx_k37 q pc w = true) (hr : sx_oSw ih w d mi (sx_mt mi).1 lst L S h n sy cs ss = some outs) : W p l e R s m args below meth c H locs cells slots Q (F0 m pc ls st) := by
  obtain ⟨-, hx, -, hb, hml, -, -, -, hown, -, hT, -⟩ := id hC
  obtain ⟨hLc, hSt, hrest⟩ := id hA
  unfold sx_oSw at hr
  cases S with
  | nil => cases hr
  | cons v r =>
  obtain ⟨vx, st2, rfl, hvx, hSt2⟩ := hSt.cons
  obtain ⟨t, ht, hr⟩ := sx_opt_ok hr
  rw [sx_nth_eq] at ht
  obtain ⟨hY, hG, hS, hxs, hrm⟩ := id hrest
  obtain ⟨v', hr, hvx, -⟩ := sx_nm_ok hr hY hvx
  cases h0 : Nat.beq (sx_tg v') 0 with
  | true =>
    rw [h0, sx_if_t, sx_fo_eq] at hr
    have e := hvx.t0 (sx_beq h0)
    subst e
    refine sx_sw1 hx hb hk ht ?_
    rw [sx_b_ofNat]
    exact sx_go IH hr hC ⟨hLc, hSt2, hrest⟩ hL List.prefix_rfl List.prefix_rfl (fun _ h => h) hQ
  | false =>
    rw [h0, sx_if_f] at hr
    obtain ⟨h1, hr⟩ := sx_if_ok hr
    obtain ⟨z, hz, rfl⟩ := hvx.t1 (sx_beq h1)
    refine sx_sw1 hx hb hk ht ?_
    obtain ⟨en, hen, hr⟩ := sx_opt_ok hr
    rw [sx_nth_eq] at hen
    obtain ⟨o1, o2, a1, a2, rfl⟩ := sx_app_ok hr
    obtain ⟨o3, o4, b1, b2, rfl⟩ := sx_app_ok a2
    obtain ⟨e1, e2, -⟩ := hY.2 _ _ _ hz hen
    rcases Nat.lt_or_ge (sx_b z) t.2.1 with q1 | q1
    · cases hq0 : Nat.beq t.2.1 0 with
      | true => have := sx_beq hq0; omega
      | false =>
        rw [hq0, sx_if_f, sx_mn_eq] at a1
        obtain ⟨sy', k1, k2, -, -, -⟩ := sx_rf_ok a1 hY hz e1 (by show _ ≤ min en.2.1 (t.2.1 - 1); omega)
        rw [sx_tg1_lo q1]
        exact sx_go IH k1 hC ⟨hLc, hSt2, k2, hG, hS, hxs, hrm⟩ hL List.prefix_rfl List.prefix_rfl (fun o ho => List.mem_append_left _ ho) hQ
    · rcases Nat.lt_or_ge (sx_b z) (t.2.1 + t.2.2.1.length) with q2 | q2
      · simp only [sx_fo_eq, sx_mn_eq, sx_mx_eq] at b2
        obtain ⟨sy', outs', k1, k2, k3, k4, ⟨p0, o0, k5⟩, -⟩ := sx_en_ok b2 hY hz (by omega) (by show _ ≤ min en.2.1 (t.2.1 + t.2.2.1.length - 1); omega)
        rw [sx_nth_eq, k5] at k1
        exact sx_go IH k1 hC ⟨hLc, hSt2, k3, hG, hS, hxs, hrm⟩ hL List.prefix_rfl List.prefix_rfl (fun o ho => List.mem_append_right _ (List.mem_append_right _ (k2 o ho))) hQ
      · rw [sx_mx_eq] at b1
        obtain ⟨sy', k1, k2, -, -, -⟩ := sx_rf_ok b1 hY hz (by show max en.1 (t.2.1 + t.2.2.1.length) ≤ _; omega) e2
        rw [sx_tg1_hi q2]
        exact sx_go IH k1 hC ⟨hLc, hSt2, k2, hG, hS, hxs, hrm⟩ hL List.prefix_rfl List.prefix_rfl (fun o ho => List.mem_append_right _ (List.mem_append_left _ ho)) hQ
end SXInvS
