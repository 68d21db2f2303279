/-! sx: ends, the copy of an array -/
section SXRet
variable {N : Nat} {ih : sx_ih} {w d mi pc n cs ss : Nat} {lst : List sx_I} {L S : List Nat} {h : sx_H} {sy : sx_Y} {outs : List sx_O}
variable {p : Program} {l : Launch} {e : Env} {R : Room} {s : State} {m : MethodId} {args : Array Value} {below : List Frame} {meth : Method} {c : Code} {D : va_G} {K : ClassId → FieldType → Prop} {b : Nat → Nat} {xs : Nat → Int32} {A : Nat → Prop} {q : sx_M}
variable {ad : List Nat} {rs : List Int32} {ls : Array Slot} {st : List Value} {H : Heap} {locs : List Loc} {cells slots : Nat} {Q : State → Prop}
theorem sx_imp {Q1 : State → Prop} {g : JFrame} (h : W p l e R s m args below meth c H locs cells slots Q1 g) (f : ∀ t, Q1 t → Q t) : W p l e R s m args below meth c H locs cells slots Q g := by
  intro T hT X
  obtain ⟨t, a, b⟩ := h T hT X
  exact ⟨t, a, f t b⟩
/-- what an end without a throw gives -/
theorem sx_ended {kd v : Nat} {oc : Outcome} (hA : sx_At R s c D K b N xs A ad rs cells slots locs L S h n sy cs ss ls st H) (hQ : ∀ t, sx_En R s below D K b A ad rs (kd, v, h, n, sy, cs, ss) t → Q t) (ho : ∀ t, sx_Oc s b ad rs kd v oc t) :
    ∀ t, MQ below (fun _ _ o t => o = oc ∧ t.heap = H) args s cells slots A t → Q t := by
  rintro t ⟨o, h1, h2, ⟨h3, h4⟩, Lx, ⟨-, h5, h6⟩, h7⟩
  obtain ⟨-, -, hY, hG, hS, -, hr1, hr2, -⟩ := hA
  subst h3
  refine hQ t ⟨_, ad, rs, Lx, cells, slots, h1, h2, h5, h6, List.prefix_rfl, List.prefix_rfl, hY, by rw [h4]; exact hG, ⟨by rw [h4]; exact hS.1, by rw [h4]; exact hS.2.1, h7⟩, hr1, hr2, ho t⟩
theorem sx_oiI : Cond.instanceMethod Lib.objectInit ∈ sx_wl := sx_isW_ok (by decide +kernel)
theorem sx_oiC : Cond.code Lib.objectInit ⟨#[0xb1]⟩ 1 none ∈ sx_wl := List.mem_filter.mpr ⟨List.mem_of_getElem? (i := 156) (by decide +kernel), by decide +kernel⟩
theorem sx_acS : Cond.static arraycopyName ∈ sx_wl := sx_isW_ok (by decide +kernel)
theorem sx_acN : Cond.native arraycopyName ∈ sx_wl := sx_isW_ok (by decide +kernel)
theorem sx_acZ : Cond.initialized "java/lang/System" ∈ sx_wl := sx_isW_ok (by decide +kernel)
theorem sx_sRet (IH : sx_Ok N ih) (hC : sx_Cx p e R s m meth c D K b N xs A mi d q) (hA : sx_At R s c D K b N xs A ad rs cells slots locs L S h n sy cs ss ls st H) (hL : sx_Ls p l e R s m args below meth c D K b N xs A Q ad rs lst) (hQ : ∀ o ∈ outs, ∀ t, sx_En R s below D K b A ad rs o t → Q t)
    (hk : sx_k26 q pc w = true) (hr : sx_oRet w S h n sy cs ss = some outs) : W p l e R s m args below meth c H locs cells slots Q (F0 m pc ls st) := by
  obtain ⟨-, hx, -, hb, hml, -, -, -, hown, -, hT, -⟩ := id hC
  obtain ⟨hLc, hSt, hrest⟩ := id hA
  obtain ⟨-, -, -, -, -, hret, -, -, -, hlocks, -⟩ := id hC
  unfold sx_oRet at hr
  cases S with
  | nil => cases hr
  | cons v r =>
  obtain ⟨x, st', rfl, hv, hSt'⟩ := hSt.cons
  rw [sx_p1_cons] at hr
  obtain ⟨hty, hr⟩ := sx_if_ok hr
  cases r with
  | cons y r2 => cases hr
  | nil =>
  have e := hSt'.nil
  subst e
  have hr : some [(1, v, h, n, sy, cs, ss)] = some outs := hr
  cases hr
  obtain ⟨hY, hG, hS, hxs, hrm⟩ := id hrest
  have hQ1 := hQ _ (List.mem_singleton.mpr rfl)
  have ho : ∀ t, sx_Oc s b ad rs 1 v (.returned (some x)) t := fun t => Or.inr (Or.inl ⟨rfl, x, rfl, hv⟩)
  unfold sx_k26 at hk
  split at hk
  · rename_i w0
    rw [w0] at hty
    simp only [Bool.and_eq_true, decide_eq_true_eq] at hk
    obtain ⟨z, rfl⟩ := hv.i (sx_ble hty)
    exact sx_imp (W.iret (Qc := fun _ _ o t => o = .returned (some (.int z)) ∧ t.heap = H) (free := A) hx hb (hret.trans hk.1) (fun t h1 _ => ⟨rfl, h1⟩) hS.2.2 (sx_dc_ok hk.2) hlocks) (sx_ended hA hQ1 ho)
  split at hk
  · rename_i w0 w1
    rw [w1] at hty
    simp only [Bool.and_eq_true, decide_eq_true_eq] at hk
    obtain ⟨t1, t2⟩ := sx_and_ok (show sx_and (Nat.beq (sx_tg v) 0) (Nat.ble (sx_pl v) 1) = true from hty)
    have e := hv.t0 (sx_beq t1)
    subst e
    exact sx_imp (W.zret (Qc := fun _ _ o t => o = .returned (some (.int (Int32.ofNat (v / 8)))) ∧ t.heap = H) (free := A) hx hb (hret.trans hk.1) (sx_fit_bool (sx_ble t2)).1 (fun t h1 _ => ⟨rfl, h1⟩) hS.2.2 (sx_dc_ok hk.2) hlocks) (sx_ended hA hQ1 ho)
  · rename_i w0 w1
    simp only [Bool.and_eq_true, decide_eq_true_eq] at hk
    rw [sx_beq_e w0, sx_if_f, sx_beq_e w1, sx_if_f] at hty
    have e := hv.t4 (sx_beq hty)
    subst e
    exact sx_imp (W.lret (Qc := fun _ _ o t => o = .returned (some (.long (Int64.ofNat (v / 8)))) ∧ t.heap = H) (free := A) hx hb (hret.trans hk.1) (fun t h1 _ => ⟨rfl, h1⟩) hS.2.2 (sx_dc_ok hk.2) hlocks) (sx_ended hA hQ1 ho)
theorem sx_sVret (IH : sx_Ok N ih) (hC : sx_Cx p e R s m meth c D K b N xs A mi d q) (hA : sx_At R s c D K b N xs A ad rs cells slots locs L S h n sy cs ss ls st H) (hL : sx_Ls p l e R s m args below meth c D K b N xs A Q ad rs lst) (hQ : ∀ o ∈ outs, ∀ t, sx_En R s below D K b A ad rs o t → Q t)
    (hk : sx_k27 q pc = true) (hr : sx_nil S (some [(0, 0, h, n, sy, cs, ss)]) = some outs) : W p l e R s m args below meth c H locs cells slots Q (F0 m pc ls st) := by
  obtain ⟨-, hx, -, hb, hml, -, -, -, hown, -, hT, -⟩ := id hC
  obtain ⟨hLc, hSt, hrest⟩ := id hA
  obtain ⟨-, -, -, -, -, hret, -, -, -, hlocks, -⟩ := id hC
  cases S with
  | cons y r2 => cases hr
  | nil =>
  have e := hSt.nil
  subst e
  have hr : some [(0, 0, h, n, sy, cs, ss)] = some outs := hr
  cases hr
  obtain ⟨hY, hG, hS, hxs, hrm⟩ := id hrest
  unfold sx_k27 at hk
  simp only [Bool.and_eq_true, decide_eq_true_eq] at hk
  exact sx_imp (W.vret (Qc := fun _ _ o t => o = .returned none ∧ t.heap = H) (free := A) hx hb (hret.trans hk.1) (fun t h1 _ => ⟨rfl, h1⟩) hS.2.2 (sx_dc_ok hk.2) hlocks) (sx_ended hA (hQ _ (List.mem_singleton.mpr rfl)) (fun t => Or.inl ⟨rfl, rfl⟩))
theorem sx_sObj (IH : sx_Ok N ih) (hC : sx_Cx p e R s m meth c D K b N xs A mi d q) (hA : sx_At R s c D K b N xs A ad rs cells slots locs L S h n sy cs ss ls st H) (hL : sx_Ls p l e R s m args below meth c D K b N xs A Q ad rs lst) (hQ : ∀ o ∈ outs, ∀ t, sx_En R s below D K b A ad rs o t → Q t)
    (hk : sx_k24 q pc w = true) (hr : sx_oObj ih d mi (sx_mt mi).1 lst pc L S h n sy cs ss = some outs) : W p l e R s m args below meth c H locs cells slots Q (F0 m pc ls st) := by
  obtain ⟨-, hx, -, hb, hml, -, -, -, hown, -, hT, -⟩ := id hC
  obtain ⟨hLc, hSt, hrest⟩ := id hA
  obtain ⟨-, -, -, -, -, -, -, -, -, -, -, -, -, -, -, -, -, hfr, hlo⟩ := id hC
  unfold sx_oObj at hr
  cases S with
  | nil => cases hr
  | cons v r =>
  obtain ⟨x, st', rfl, hv, hSt'⟩ := hSt.cons
  rw [sx_p1_cons] at hr
  obtain ⟨hc, hr⟩ := sx_if_ok hr
  obtain ⟨c1, c2⟩ := sx_and_ok hc
  have c2 : r.length ≤ 40 := sx_ble c2
  rw [sx_fo_eq] at hr
  obtain ⟨a, ha, rfl⟩ := hv.t2 (sx_beq c1)
  unfold sx_k24 at hk
  obtain ⟨t, ht, hk⟩ := sx_oa_ok hk
  simp only [Bool.and_eq_true, decide_eq_true_eq] at hk
  obtain ⟨hcls, hd, ho⟩ := hk
  obtain ⟨hY, hG, hS, hxs, hr1, hr2, hr3⟩ := id hrest
  have hsum := hSt'.sum
  refine W.objInit hx hb hown (idx := t.2.1) (by rw [← ho, ← hcls]; exact hT.1 args _ (sx_ml_in ht)) (hT.1 args _ sx_oiI) (hT.1 args _ sx_oiC) (g := F0 m pc ls (.ref a :: st')) rfl (by show ls.size = _; rw [hLc.1, hr3]) rfl (sx_dc_ok hd) (by omega) ?_ (sx_go IH hr hC ⟨hLc, hSt', hrest⟩ hL List.prefix_rfl List.prefix_rfl (fun _ h => h) hQ)
  show 2 * 0 + _ + 12 ≤ R.locals
  omega
theorem sx_sCpy (IH : sx_Ok N ih) (hC : sx_Cx p e R s m meth c D K b N xs A mi d q) (hA : sx_At R s c D K b N xs A ad rs cells slots locs L S h n sy cs ss ls st H) (hL : sx_Ls p l e R s m args below meth c D K b N xs A Q ad rs lst) (hQ : ∀ o ∈ outs, ∀ t, sx_En R s below D K b A ad rs o t → Q t)
    (hk : sx_k25 q pc w = true) (hr : sx_oCpy ih d mi (sx_mt mi).1 lst pc L S h n sy cs ss = some outs) : W p l e R s m args below meth c H locs cells slots Q (F0 m pc ls st) := by
  obtain ⟨-, hx, -, hb, hml, -, -, -, hown, -, hT, -⟩ := id hC
  obtain ⟨hLc, hSt, hrest⟩ := id hA
  obtain ⟨-, -, -, -, -, -, -, -, -, -, -, -, -, -, -, -, -, hfr, hlo⟩ := id hC
  unfold sx_oCpy at hr
  cases S with
  | nil => cases hr
  | cons v r =>
  cases r with
  | nil => cases hr
  | cons u r2 =>
  cases r2 with
  | nil => cases hr
  | cons t r3 =>
  cases r3 with
  | nil => cases hr
  | cons y r4 =>
  cases r4 with
  | nil => cases hr
  | cons z r5 =>
  obtain ⟨x1, st1, rfl, hv1, hSt1⟩ := hSt.cons
  obtain ⟨x2, st2, rfl, hv2, hSt2⟩ := hSt1.cons
  obtain ⟨x3, st3, rfl, hv3, hSt3⟩ := hSt2.cons
  obtain ⟨x4, st4, rfl, hv4, hSt4⟩ := hSt3.cons
  obtain ⟨x5, st5, rfl, hv5, hSt5⟩ := hSt4.cons
  rw [sx_p1_cons, sx_p1_cons, sx_p1_cons, sx_p1_cons, sx_p1_cons] at hr
  obtain ⟨hc, hr⟩ := sx_if_ok hr
  obtain ⟨c0, c1⟩ := sx_and_ok hc
  obtain ⟨c00, c0⟩ := sx_and_ok c0
  have c00 : r5.length ≤ 40 := sx_ble c00
  obtain ⟨p1, p2⟩ := sx_and_ok c0
  have p1 : u = 0 := sx_beq p1
  have p2 : y = 0 := sx_beq p2
  obtain ⟨ca, cb⟩ := sx_and_ok c1
  obtain ⟨ca, -⟩ := sx_and_ok ca
  obtain ⟨cb, -⟩ := sx_and_ok cb
  simp only [sx_rdK_eq, sx_fo_eq, sx_wrK_eq] at hr
  obtain ⟨hc2, hr⟩ := sx_if_ok hr
  obtain ⟨d1, d2⟩ := sx_and_ok hc2
  obtain ⟨d0, d1⟩ := sx_and_ok d1
  obtain ⟨d2, d3⟩ := sx_and_ok d2
  have d0 : (sx_rd h (z / 8)).1 % 256 = 100 := sx_beq d0
  have d1 : (sx_rd h (z / 8)).1 = (sx_rd h (t / 8)).1 := sx_beq d1
  have d3 : v = 8 * ((sx_rd h (z / 8)).1 / 256) := sx_beq d3
  obtain ⟨aa, haa, rfl⟩ := hv5.t2 (sx_beq ca)
  obtain ⟨ab, hab, rfl⟩ := hv3.t2 (sx_beq cb)
  have e2 := hv2.t0 (by rw [p1])
  have e4 := hv4.t0 (by rw [p2])
  have e1 := hv1.t0 (by rw [d3]; exact Nat.mul_mod_right 8 _)
  rw [p1] at e2
  rw [p2] at e4
  rw [d3, Nat.mul_div_cancel_left _ (by decide)] at e1
  subst e1
  subst e2
  subst e4
  unfold sx_k25 at hk
  obtain ⟨tl, htl, hk⟩ := sx_oa_ok hk
  simp only [Bool.and_eq_true, decide_eq_true_eq] at hk
  obtain ⟨hcls, hd, ho⟩ := hk
  obtain ⟨hY, hG, hS, hxs, hr1, hr2, hr3⟩ := id hrest
  obtain ⟨ws, ea, hP, hD, g3, g4, g5, g6, hea, hEa⟩ := hG.at haa
  obtain ⟨eb, heb, hEb⟩ : ∃ eb, ws[t / 8]? = some (ab, eb) ∧ sx_E K b ad rs (sx_rd h (t / 8)) eb := by
    rw [← g3, List.getElem?_map] at hab
    cases hw : ws[t / 8]? with
    | none => rw [hw] at hab; cases hab
    | some qq =>
      rw [hw] at hab
      obtain ⟨qa, qe⟩ := qq
      have : qa = ab := by simpa using hab
      subst this
      exact ⟨qe, rfl, g6 _ _ hw⟩
  rcases hEa with ⟨ci, fs, -, q2, ⟨C, q3, -⟩, -⟩ | ⟨cA, f, rfl, q2, q3, q4⟩ | ⟨cA, f, -, q2, -⟩ | ⟨cA, f, -, q2, -⟩
  · have := (List.getElem?_eq_some_iff.mp q3).1; rw [sx_fl_len.2] at this; omega
  · rcases hEb with ⟨ci, fs, -, q2', ⟨C, q3', -⟩, -⟩ | ⟨cB, g, rfl, q2', q3', q4'⟩ | ⟨cB, g, -, q2', -⟩ | ⟨cB, g, -, q2', -⟩
    · have := (List.getElem?_eq_some_iff.mp q3').1; rw [sx_fl_len.2] at this; omega
    · have hlen : (sx_rd h (z / 8)).1 / 256 ≤ 5000 := q3.2
      have hz : ¬ Int32.ofNat ((sx_rd h (z / 8)).1 / 256) < 0 := nI_pos (n := (sx_rd h (z / 8)).1 / 256) (by omega)
      have hcl : (Int32.ofNat ((sx_rd h (z / 8)).1 / 256)).toNatClampNeg = (sx_rd h (z / 8)).1 / 256 := nI_clamp (n := (sx_rd h (z / 8)).1 / 256) (by omega)
      have hKK : va_K D sx_classes [(cA, .int), (cB, .int)] s := by
        have h1 := sx_KA hT q3.1
        have h2 := sx_KA hT q3'.1
        exact h1.app h2
      have hsum := hSt5.sum
      have z0 : (Int32.ofNat (0 / 8)).toNatClampNeg = 0 := rfl
      refine va_copyi hx hb (by rw [hLc.1, hr3]) hown (index := tl.2.1) (by rw [← ho, ← hcls]; exact hT.1 args _ (sx_ml_in htl)) (hT.1 args _ sx_acN) (hT.1 args _ sx_acS) (hT.1 args _ sx_acZ) hKK hP hD hS (z / 8) (t / 8) 0 1 hea heb rfl rfl (ty := .int) rfl (by decide) (by decide) hz (by rw [hcl, z0]; omega) (by rw [hcl, z0, ← d1]; omega) (fun _ _ => rfl) (by omega) (by rw [show nativeFrameWords "java/lang/System" "arraycopy" 5 = 7 by decide +kernel]; omega) (sx_dc_ok hd) (fun H1 locs1 hP1 hD1 hS1 => ?_)
      rw [hcl, z0] at hP1 hD1
      refine sx_go IH hr hC ⟨hLc, hSt5, hY, sx_G.set g3 g4 g5 g6 heb hP1 hD1 ?_, hS1, hxs, hr1, hr2, hr3⟩ hL List.prefix_rfl List.prefix_rfl (fun _ h => h) hQ
      refine Or.inr (Or.inl ⟨cB, _, rfl, q2', q3', fun j hj => ?_⟩)
      have hj2 : j < (sx_rd h (z / 8)).1 / 256 := by rw [d1]; exact hj
      show sx_V b ad rs (sx_get (sx_rd h (z / 8)).2 j) (.int (va_cpy f g 0 0 ((sx_rd h (z / 8)).1 / 256) j))
      rw [pk_cpy_in (Nat.zero_le j) (by omega), show 0 + (j - 0) = j by omega]
      exact q4 j hj2
    · omega
    · omega
  · omega
  · omega
end SXRet
