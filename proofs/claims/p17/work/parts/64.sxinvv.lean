/-! sx: calls by the class of the receiver -/
section SXInvV
variable {N : Nat} {ih : sx_ih} {w d mi pc n cs ss : Nat} {lst : List sx_I} {L S : List Nat} {h : sx_H} {sy : sx_Y} {outs : List sx_O}
variable {p : Program} {l : Launch} {e : Env} {R : Room} {s : State} {m : MethodId} {args : Array Value} {below : List Frame} {meth : Method} {c : Code} {D : va_G} {K : ClassId → FieldType → Prop} {b : Nat → Nat} {xs : Nat → Int32} {A : Nat → Prop} {q : sx_M}
variable {ad : List Nat} {rs : List Int32} {ls : Array Slot} {st : List Value} {H : Heap} {locs : List Loc} {cells slots : Nat} {Q : State → Prop}
def sx_vC (k : Nat) : Bool := sx_oa (sx_ml[k]?) (fun t => sx_oa (sx_vt[k]?) (fun l => l.all (fun v =>
  sx_oa (sx_sl[v.2.2.1]?) (fun z => sx_oa (sx_classes[v.1]?) (fun C => decide (z.1 = C.1) && (decide (z.2.1 = t.2.2) && decide (z.2.2 = sx_nam v.2.1)))) && (sx_oa (sx_iml[v.2.2.2.1]?) (fun y => decide (y = sx_nam v.2.1)) &&
  ((if v.2.2.2.2 = 0 then decide (t.2.2 = sx_nam v.2.1) else if v.2.2.2.2 < 1000 then sx_oa (sx_sml[v.2.2.2.2 - 1]?) (fun z => decide (z = (t.2.2.cls, (sx_nam v.2.1).cls, t.2.2.name, t.2.2.desc)) && decide (sx_nam v.2.1 = ⟨(sx_nam v.2.1).cls, t.2.2.name, t.2.2.desc⟩)) else sx_oa (sx_sml[v.2.2.2.2 - 1000]?) (fun z => decide (z = (t.2.2.cls, t.2.2.cls, t.2.2.name, t.2.2.desc)) && (decide (t.2.2 = sx_rl) && decide ((sx_nam v.2.1).desc = t.2.2.desc)))) && (!sx_stl.contains v.2.1 && decide (v.2.1 ≠ 0)))))))
noncomputable def sf_nam (mi : Nat) : MethodName := match sx_nth sx_ms mi with
  | some q => q.1
  | none => ⟨"", "", ""⟩
theorem sf_nam_eq (mi : Nat) : sf_nam mi = sx_nam mi := by
  unfold sf_nam sx_nam
  rw [sx_nth_eq]
  cases sx_ms[mi]? <;> rfl
def sf_S {β γ : Type} (z : String × β) (C : String × γ) : Bool := match z, C with
  | (a, _), (b, _) => decide (a = b)
theorem sf_S_eq {β γ : Type} (z : String × β) (C : String × γ) : sf_S z C = decide (z.1 = C.1) := by
  cases z
  cases C
  rfl
noncomputable def sf_has (l : List Nat) (k : Nat) : Bool := List.rec false (fun a _ ih => cond (Nat.beq a k) true ih) l
theorem sf_has_eq : ∀ (l : List Nat) (k : Nat), sf_has l k = l.contains k
  | [], k => rfl
  | a :: l, k => by
    have e : sf_has (a :: l) k = cond (Nat.beq a k) true (sf_has l k) := rfl
    rw [e, sf_has_eq l k, List.contains_cons]
    by_cases h : k = a
    · subst h
      rw [show Nat.beq k k = true from Nat.beq_refl k, beq_self_eq_true]
      rfl
    · rw [show Nat.beq a k = false from by cases q : Nat.beq a k with | false => rfl | true => exact absurd (Nat.eq_of_beq_eq_true q).symm h, show (k == a) = false from beq_eq_false_iff_ne.mpr h]
      rfl
noncomputable def sf_vC (k : Nat) : Bool := sx_oa (sx_nth sx_ml (k)) (fun t => sx_oa (sx_nth sx_vt (k)) (fun l => l.all (fun v =>
  sx_oa (sx_nth sx_sl (v.2.2.1)) (fun z => sx_oa (sx_nth sx_classes (v.1)) (fun C => sf_S z C && (decide (z.2.1 = t.2.2) && decide (z.2.2 = sf_nam v.2.1)))) && (sx_oa (sx_nth sx_iml (v.2.2.2.1)) (fun y => decide (y = sf_nam v.2.1)) &&
  ((if v.2.2.2.2 = 0 then decide (t.2.2 = sf_nam v.2.1) else if v.2.2.2.2 < 1000 then sx_oa (sx_nth sx_sml (v.2.2.2.2 - 1)) (fun z => decide (z = (t.2.2.cls, (sf_nam v.2.1).cls, t.2.2.name, t.2.2.desc)) && decide (sf_nam v.2.1 = ⟨(sf_nam v.2.1).cls, t.2.2.name, t.2.2.desc⟩)) else sx_oa (sx_nth sx_sml (v.2.2.2.2 - 1000)) (fun z => decide (z = (t.2.2.cls, t.2.2.cls, t.2.2.name, t.2.2.desc)) && (decide (t.2.2 = sx_rl) && decide ((sf_nam v.2.1).desc = t.2.2.desc)))) && (!sf_has sx_stl v.2.1 && decide (v.2.1 ≠ 0)))))))
theorem sf_vC_eq (k : Nat) : sf_vC k = sx_vC k := by
  unfold sf_vC sx_vC
  simp only [sx_nth_eq, sf_nam_eq, sf_S_eq, sf_has_eq]
theorem sx_vC_ok : (List.range 455).all sx_vC = true := by
  rw [show sx_vC = sf_vC from funext fun k => (sf_vC_eq k).symm]
  decide +kernel
theorem sx_ml_len : sx_ml.length = 455 := by decide +kernel
def sx_sC (v : Nat × Nat) : Bool := sx_stl.contains v.1 && (sx_oa (sx_izl[v.2]?) (fun z => decide (z = (sx_nam v.1).cls)) && decide (v.1 ≠ 0))
theorem sx_sC_ok : sx_stat.all sx_sC = true := by decide +kernel
def sx_iC (v : Nat × Nat) : Bool := sx_oa (sx_iml[v.2]?) (fun y => decide (y = sx_nam v.1)) && (!sx_stl.contains v.1 && (decide (v.1 ≠ 0) && (decide ((sx_nam v.1).name = "<init>") && sx_oa (sx_ms[v.1]?) (fun r => decide (r.2.2.2.1 = none) && decide (r.2.2.2.2 = [])))))
theorem sx_iC_ok : sx_init.all sx_iC = true := by decide +kernel
theorem sx_nl_in {k : Nat} {t : String × Nat × MethodName × String} (hT : sx_Tb D K s) (h : sx_nl[k]? = some t) : (Cond.methodLinkNest t.1 t.2.1 t.2.2.1 t.2.2.2).before args s = true := va_Nw.use rfl (hT.2.1 t (List.mem_of_getElem? h))
theorem sx_st_in {mi : Nat} (h : sx_stl.contains mi = true) : Cond.static (sx_nam mi) ∈ sx_wl := sx_ps_in sx_z1010 (List.mem_map.mpr ⟨mi, List.contains_iff_mem.mp h, rfl⟩)
theorem sx_call_pos {av rest : List Nat} {mj : Nat} (hr : sx_call ih d mi (sx_mt mi).1 lst pc L h n sy cs ss av rest mj = some outs) : 0 < (sx_mt mj).1 := by
  cases d with
  | zero => cases hr
  | succ d =>
    have hr : sx_mtK mj (fun cj fj => sx_mtK mi (fun _ f => sx_if (sx_and (sx_and (Nat.blt 0 cj) (Nat.ble (Nat.add (Nat.mul 2 (List.length rest)) (sx_im fj)) 89)) (sx_and (Nat.ble cs 600002) (Nat.ble ss 7302232))) (Option.rec none (fun Lj => Option.rec none (fun outs => sx_cont ih (d + 1) mi (sx_mt mi).1 lst pc L rest (sx_ihd f) outs) (ih d mj cj [] false 0 Lj [] h n sy cs ss)) (sx_xp av (sx_im fj))) none)) = some outs := hr
    rw [sx_mtK_eq, sx_mtK_eq] at hr
    obtain ⟨hc, -⟩ := sx_if_ok hr
    exact sx_blt (sx_and_ok (sx_and_ok hc).1).1
theorem sx_iml_nn0 : sx_iml.all (fun y => decide (y ≠ ⟨"", "", ""⟩)) = true := by decide +kernel
theorem sx_iml_nn {k : Nat} {y : MethodName} (h : sx_iml[k]? = some y) : y ≠ ⟨"", "", ""⟩ := of_decide_eq_true (List.all_eq_true.mp sx_iml_nn0 y (List.mem_of_getElem? h))
theorem sx_sInvV (IH : sx_Ok N ih) (hC : sx_Cx p e R s m meth c D K b N xs A mi d q) (hA : sx_At R s c D K b N xs A ad rs cells slots locs L S h n sy cs ss ls st H) (hL : sx_Ls p l e R s m args below meth c D K b N xs A Q ad rs lst) (hQ : ∀ o ∈ outs, ∀ t, sx_En R s below D K b A ad rs o t → Q t)
    (hMO : sx_MO) (hM : sx_Mok mi q) (hk : sx_k21 q pc w = true) (hr : sx_oInv ih w d mi (sx_mt mi).1 lst pc L S h n sy cs ss true = some outs) : W p l e R s m args below meth c H locs cells slots Q (F0 m pc ls st) := by
  obtain ⟨-, hx, -, hb, hml, -, -, -, hown, -, hT, -⟩ := id hC
  obtain ⟨hLc, hSt, hrest⟩ := id hA
  unfold sx_oInv at hr
  rw [sx_fo_eq, sx_mtK_eq] at hr
  obtain ⟨av, rest, avs', restv, hr, hav, hre, rfl, hl1, hl2⟩ := sx_tk_ok hr hSt (show sx_St b ad rs [] [] from trivial)
  rw [List.append_nil] at hav
  cases av with
  | nil => cases hr
  | cons o at' =>
  obtain ⟨xo, argsL, hrv, ho, hat⟩ := hav.cons
  have hr : sx_if (sx_and (Nat.beq (sx_tg o) 2) (Nat.blt (sx_pl o) n)) (sx_rdK h (sx_pl o) (fun hd _ => sx_if (Nat.beq (Nat.mod (Nat.shiftRight (sx_wb w) (Nat.mod hd 256)) 2) 1) (sx_call ih d mi (sx_mt mi).1 lst pc L h n sy cs ss (o :: at') rest (sx_wc w)) none)) none = some outs := hr
  obtain ⟨hc, hr⟩ := sx_if_ok hr
  obtain ⟨c1, -⟩ := sx_and_ok hc
  rw [sx_rdK_eq] at hr
  obtain ⟨c2, hr⟩ := sx_if_ok hr
  have c2 : (sx_wb w >>> ((sx_rd h (o / 8)).1 % 256)) % 2 = 1 := sx_beq c2
  obtain ⟨a, ha, rfl⟩ := ho.t2 (sx_beq c1)
  unfold sx_k21 at hk
  obtain ⟨t, ht, hk⟩ := sx_oa_ok hk
  simp only [Bool.and_eq_true, decide_eq_true_eq] at hk
  obtain ⟨hcls, hd, hwb, hk⟩ := hk
  have hci : (sx_rd h (o / 8)).1 % 256 < 12 := by
    rcases Nat.lt_or_ge ((sx_rd h (o / 8)).1 % 256) 12 with z | z
    · exact z
    · have : sx_wb w < 2 ^ ((sx_rd h (o / 8)).1 % 256) := Nat.lt_of_lt_of_le hwb (show (2:Nat)^12 ≤ 2 ^ ((sx_rd h (o / 8)).1 % 256) from Nat.pow_le_pow_right (by decide) z)
      rw [Nat.shiftRight_eq_div_pow, Nat.div_eq_of_lt this] at c2
      omega
  have hk1 := List.all_eq_true.mp hk _ (List.mem_range.mpr hci)
  rw [if_pos c2] at hk1
  obtain ⟨vl, hvl, hk1⟩ := sx_oa_ok hk1
  obtain ⟨v, hv, hk1⟩ := List.any_eq_true.mp hk1
  simp only [Bool.and_eq_true, decide_eq_true_eq] at hk1
  obtain ⟨v1, v2⟩ := hk1
  have hkl : sx_wa w < 455 := by rw [← sx_ml_len]; exact (List.getElem?_eq_some_iff.mp ht).1
  have hvC := List.all_eq_true.mp sx_vC_ok _ (List.mem_range.mpr hkl)
  unfold sx_vC at hvC
  obtain ⟨t', ht', hvC⟩ := sx_oa_ok hvC
  cases ht.symm.trans ht'
  obtain ⟨vl', hvl', hvC⟩ := sx_oa_ok hvC
  cases hvl.symm.trans hvl'
  have hvC := List.all_eq_true.mp hvC v hv
  simp only [Bool.and_eq_true, decide_eq_true_eq] at hvC
  obtain ⟨w1, w2, w3, w4, w5⟩ := hvC
  obtain ⟨z, hz, w1⟩ := sx_oa_ok w1
  obtain ⟨C, hC1, w1⟩ := sx_oa_ok w1
  simp only [Bool.and_eq_true, decide_eq_true_eq] at w1
  obtain ⟨z1, z2, z3⟩ := w1
  obtain ⟨yy, hyy, w2⟩ := sx_oa_ok w2
  have w2 : yy = sx_nam v.2.1 := of_decide_eq_true w2
  rw [v2] at z3 w2 w3 w4 w5
  rw [v1] at hC1
  obtain ⟨r, hmr⟩ : ∃ r, sx_ms[sx_wc w]? = some r := by
    cases hx0 : sx_ms[sx_wc w]? with
    | some r => exact ⟨r, rfl⟩
    | none =>
      exfalso
      have hb := sx_iml_nn hyy
      rw [w2] at hb
      unfold sx_nam at hb
      rw [hx0] at hb
      exact hb rfl
  have hnam := sx_nam_eq hmr
  rw [hnam] at z3 w2 w3
  have hsel := hT.1 args _ (sx_sl_in hz)
  rw [z1, z2, z3] at hsel
  have hinst := hT.1 args _ (sx_iml_in hyy)
  rw [w2] at hinst
  obtain ⟨hY, hG, hS, hxs, hr1, hr2, hr3⟩ := id hrest
  obtain ⟨ws, ee, hP, hD, g3, g4, g5, g6, he, hE⟩ := hG.at ha
  have hE1 : ∃ fs, ee = .inr ((sx_rd h (o / 8)).1 % 256, fs) := by
    rcases hE with ⟨ci, fs, rfl, e2, -⟩ | ⟨cA, f, -, e2, -⟩ | ⟨cA, f, -, e2, -⟩ | ⟨cA, f, -, e2, -⟩
    · exact ⟨fs, by rw [e2]⟩
    · omega
    · omega
    · omega
  obtain ⟨fs, rfl⟩ := hE1
  obtain ⟨cellB, hcB, hoB, hclB⟩ := va_recv hT.2.2.2.2.2.1 hP (ci := (sx_rd h (o / 8)).1 % 256) (q0 := o / 8) hC1 he
  refine sx_inv IH hC hA hL hQ hMO hM hr (avs := .ref a :: argsL) (by rw [← hrv]; exact hav) hre hmr w5 (fun T hTH X => ?_)
  have hcj : 0 < (sx_mt (sx_wc w)).1 := sx_call_pos hr
  have hMj := hMO _ r hmr hcj
  have hnB := (hMj.2.2.2.2.2 w5).1
  unfold sx_nB at hnB
  rw [if_neg (by rw [Bool.not_eq_true]; simpa using w4)] at hnB
  have hnB := of_decide_eq_true hnB
  have hlenA : argsL.length + 1 = sx_ia (sx_mt (sx_wc w)).2 := by
    have h1 : avs'.reverse.length = argsL.length + 1 := by rw [hrv]; rfl
    rw [List.length_reverse] at h1
    omega
  have hlen : ∀ sig, parseMethodDescriptor r.1.desc = some sig → argsL.length = sig.parameters.length := by
    intro sig hs
    rw [hs] at hnB
    have : sig.parameters.length + 1 = sx_ia (sx_mt (sx_wc w)).2 := Option.some.inj hnB
    omega
  have hstack : (F0 m pc ls (avs' ++ restv)).stack = argsL.reverse ++ .ref a :: restv := by
    show avs' ++ restv = _
    have : avs' = argsL.reverse ++ [.ref a] := by rw [← List.reverse_reverse avs', hrv, List.reverse_cons]
    rw [this, List.append_assoc]
    rfl
  have hlink : (Cond.methodLink q.1.cls t.2.1 t.2.2).before args s = true := by rw [← hcls]; exact hT.1 args _ (sx_ml_in ht)
  obtain ⟨mk, methM, hnamed, hmethM, hstM, habM⟩ := Cond.instanceMethod_spec hinst
  obtain ⟨mk', methk, ck, n1, n2, -, -, -, -, -, -, hsigM, -⟩ := sx_meth hT w5 hMj
  cases hnamed.symm.trans n1
  cases hmethM.symm.trans n2
  obtain ⟨c2', r2, m2, q1, q2, q3, q4, kP, hkP, hkPi⟩ := Cond.selects_spec hsel
  cases hclB.symm.trans q1
  cases hnamed.symm.trans q3
  have hcT : T.heap[a]? = some cellB := by rw [hTH]; exact hcB
  have hne : ∀ z, cellB.vm ≠ .statics z := fun z hz => by rw [hz] at hoB; cases hoB
  by_cases hv0 : v.2.2.2.2 = 0
  · rw [if_pos hv0] at w3
    have w3 : t.2.2 = r.1 := of_decide_eq_true w3
    rw [w3] at hlink q2
    cases (State.methodFound?_of_named hnamed hMj.2.2.2.1).symm.trans q2
    have hselP : selectMethod e.platform s.vm cellB.cls mk = .method mk := by rw [Launch.admits_selectMethod X.admits]; exact q4
    obtain ⟨vm₁, X₁, hstep₁⟩ := X.invokevirtual hx hown hlink hnamed hmethM hstM hkP hkPi hMj.2.2.2.1 hcT hne hselP hmethM habM hkP hkPi (g := F0 m pc ls (avs' ++ restv)) rfl (argsL := argsL) (rest := restv) (hlen _ hsigM) hstack (by rw [hb]; exact sx_dc_ok hd)
    exact ⟨vm₁, mk, _, X₁, hnamed, by rw [hb]; exact sx_dc_ok hd, fun target ht => hstep₁ _ fun acts => by rw [doInvoke_state]; exact ht⟩
  by_cases hv1 : v.2.2.2.2 < 1000
  · rw [if_neg hv0, if_pos hv1] at w3
    obtain ⟨zz, hzz, w3⟩ := sx_oa_ok w3
    simp only [Bool.and_eq_true, decide_eq_true_eq] at w3
    obtain ⟨y1, y2⟩ := w3
    have hsame := hT.1 args _ (sx_sml_in hzz)
    rw [y1] at hsame
    dsimp only at hsame
    obtain ⟨cn, ckk, rr, hcn, hck, hni, hf, hn1⟩ := Cond.sameMethod_found hsame
    rw [← y2] at hn1
    cases hnamed.symm.trans hn1
    cases hf.symm.trans q2
    have hselP : selectMethod e.platform s.vm cellB.cls mk = .method mk := by rw [Launch.admits_selectMethod X.admits]; exact q4
    obtain ⟨vm₁, X₁, hstep₁⟩ := X.invokevirtualUp hx hown hlink hsame hMj.2.2.2.1 (by rw [← y2]; exact hnamed) hmethM hstM hcT hne hselP hmethM habM hkP hkPi (g := F0 m pc ls (avs' ++ restv)) rfl (argsL := argsL) (rest := restv) (hlen _ hsigM) hstack (by rw [hb]; exact sx_dc_ok hd)
    exact ⟨vm₁, mk, _, X₁, hnamed, by rw [hb]; exact sx_dc_ok hd, fun target ht => hstep₁ _ fun acts => by rw [doInvoke_state]; exact ht⟩
  · rw [if_neg hv0, if_neg hv1] at w3
    obtain ⟨zz, hzz, w3⟩ := sx_oa_ok w3
    simp only [Bool.and_eq_true, decide_eq_true_eq] at w3
    obtain ⟨y1, y2, y3⟩ := w3
    have hsame := hT.1 args _ (sx_sml_in hzz)
    rw [y1] at hsame
    dsimp only at hsame
    obtain ⟨-, -, -, -, -, -, -, -, -, -, -, hSx, -⟩ := id hC
    obtain ⟨r0, rd, d1, d2, d3, d4⟩ := Cond.declares_spec (va_Nw.use (A := args) rfl hSx.2.2.2.2.2.2)
    obtain ⟨cn, ckk, rr, hcn, hck, hni, hf, hn1⟩ := Cond.sameMethod_found hsame
    have hd1 : s.methodNamed? ⟨t.2.2.cls, t.2.2.name, t.2.2.desc⟩ = some r0 := by rw [y2]; exact d1
    cases hd1.symm.trans hn1
    cases hf.symm.trans q2
    have hselP : selectMethod e.platform s.vm cellB.cls r2 = .method mk := by rw [Launch.admits_selectMethod X.admits]; exact q4
    have hlenD : argsL.length = rd.sig.parameters.length := hlen _ (by rw [y3, y2]; exact d4)
    obtain ⟨vm₁, X₁, hstep₁⟩ := X.invokevirtualUp hx hown hlink hsame (by rw [y2]; decide) hd1 d2 d3 hcT hne hselP hmethM habM hkP hkPi (g := F0 m pc ls (avs' ++ restv)) rfl (argsL := argsL) (rest := restv) hlenD hstack (by rw [hb]; exact sx_dc_ok hd)
    exact ⟨vm₁, mk, _, X₁, hnamed, by rw [hb]; exact sx_dc_ok hd, fun target ht => hstep₁ _ fun acts => by rw [doInvoke_state]; exact ht⟩
end SXInvV
