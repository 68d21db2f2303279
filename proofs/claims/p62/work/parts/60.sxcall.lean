/-! joined: 60.sxcall 61.sxfind 62.sxback 63.sxinv 64.sxinvv 65.sxinvs 65.sxnops 66.sxhead 67.sxsound 80.axexec 81.axbin -/
section
/-! sx: calls -/
section SXCall
variable {N : Nat} {ih : sx_ih} {w d mi pc n cs ss : Nat} {lst : List sx_I} {L S : List Nat} {h : sx_H} {sy : sx_Y} {outs : List sx_O}
variable {p : Program} {l : Launch} {e : Env} {R : Room} {s : State} {m : MethodId} {args : Array Value} {below : List Frame} {meth : Method} {c : Code} {D : va_G} {K : ClassId → FieldType → Prop} {b : Nat → Nat} {xs : Nat → Int32} {A : Nat → Prop} {q : sx_M}
variable {ad : List Nat} {rs : List Int32} {ls : Array Slot} {st : List Value} {H : Heap} {locs : List Loc} {cells slots : Nat} {Q : State → Prop}
def sx_hB (hid : Nat) (q : sx_M) : Bool := if hid = 0 then decide (q.2.2.2.2 = []) else sx_oa (sx_hands[hid]?) (fun hh => decide (hh.length = q.2.2.2.2.length) && (hh.zip q.2.2.2.2).all (fun z => decide (z.1.1 = z.2.1) && (decide (z.1.2.1 = z.2.2.1) && (decide (z.1.2.2.1 = z.2.2.2.1) && (decide (z.2.2.2.2 ≠ 0) && sx_oa (sx_cl[z.1.2.2.2.2]?) (fun t => decide (t.1 = q.1.cls) && (decide (t.2.1 = z.2.2.2.2) && sx_oa (sx_exc[z.1.2.2.2.1]?) (fun X => decide (X = t.2.2)))))))))
def sx_nB (mi : Nat) (q : sx_M) : Bool := if sx_stl.contains mi then decide ((parseMethodDescriptor q.1.desc).map (fun d => d.parameters.length) = some (sx_ia (sx_mt mi).2)) else decide ((parseMethodDescriptor q.1.desc).map (fun d => d.parameters.length + 1) = some (sx_ia (sx_mt mi).2))
def sx_Mok (mi : Nat) (q : sx_M) : Prop := (∃ len, sx_mw q (sx_mt mi).1 len = true) ∧ sx_im (sx_mt mi).2 = q.2.2.1 ∧ plainFor q.1 = true ∧ (q.1.cls ≠ "java/lang/invoke/MethodHandle" ∧ q.1.cls ≠ "java/lang/invoke/VarHandle") ∧ sx_hB (sx_ihd (sx_mt mi).2) q = true ∧ (mi ≠ 0 → sx_nB mi q = true ∧ (q.2.2.2.2 = [] → Cond.code q.1 q.2.1 q.2.2.1 q.2.2.2.1 ∈ sx_wl) ∧ (q.2.2.2.2 ≠ [] → Cond.codeWith q.1 q.2.1 q.2.2.1 q.2.2.2.1 q.2.2.2.2 ∈ sx_wl))
def sx_MO : Prop := ∀ (mi : Nat) (q : sx_M), sx_ms[mi]? = some q → 0 < (sx_mt mi).1 → sx_Mok mi q
/-- a method of the tables, in a state that has their words -/
theorem sx_meth {mj : Nat} {r : sx_M} (hT : sx_Tb D K s) (h0 : mj ≠ 0) (hM : sx_Mok mj r) : ∃ (mk : MethodId) (methk : Method) (ck : Code), s.methodNamed? r.1 = some mk ∧ s.vm.method? mk = some methk ∧ methk.code = some ck ∧ ck.code = r.2.1 ∧ ck.maxLocals = r.2.2.1 ∧ methk.sig.returnType = r.2.2.2.1 ∧ methk.locks = false ∧ ck.exceptionTable.toList.map (fun h => (h.startPc, h.endPc, h.handlerPc, h.catchType)) = r.2.2.2.2 ∧ parseMethodDescriptor r.1.desc = some methk.sig ∧ methk.name = r.1.name := by
  by_cases he : r.2.2.2.2 = []
  · have hw := (hM.2.2.2.2.2 h0).2.1 he
    have hc := hT.1 #[] _ hw
    obtain ⟨mk, hn⟩ := Cond.code_named hc
    obtain ⟨methk, ck, h1, h2, h3, h4, h5, h6, h7, h8⟩ := Cond.code_spec hn hc
    refine ⟨mk, methk, ck, hn, h1, h2, h3, h4, h5, h6, ?_, h8, (name_of_methodNamed hn h1).1⟩
    rw [he]
    have h9 : ck.exceptionTable.size = 0 := by simpa [Array.isEmpty] using h7
    rw [List.eq_nil_of_length_eq_zero (by simpa using h9 : ck.exceptionTable.toList.length = 0)]
    rfl
  · have hw := (hM.2.2.2.2.2 h0).2.2 he
    obtain ⟨mk, methk, ck, hn, h1, h2, h3, h4, h5, h6, h7, h8⟩ := Cond.codeWith_spec (args := #[]) (hT.1 #[] _ hw)
    exact ⟨mk, methk, ck, hn, h1, h2, h3, h4, h6, h7, h5, h8, (name_of_methodNamed hn h1).1⟩
theorem sx_lower {g : JFrame} {t1 t2 : State} (h : Steps p.tables e (.java g :: below) t1 t2) : Steps p.tables e below t1 t2 := by
  obtain ⟨k, h1, h2⟩ := h
  exact ⟨k, h1, fun j hj => (h2 j hj).weaken (mid := [.java g])⟩
/-- an invocation: the machine comes to its entry -/
def sx_Fi (p : Program) (l : Launch) (e : Env) (R : Room) (s : State) (m : MethodId) (args : Array Value) (below : List Frame) (meth : Method) (c : Code) (T : State) (locs : List Loc) (cells slots : Nat) (g : JFrame) (rest : List Value) (y : MethodName) (av : List Value) : Prop :=
  ∃ (vm₁ : Vm) (mk : MethodId) (ig : Instr), Stand p l e R s m args below meth c (T.setVm vm₁) locs cells slots ∧ s.methodNamed? y = some mk ∧ decode c.code g.pc = .ok (ig, 3) ∧ ∀ target, Steps p.tables e below (doInvoke e ((T.setVm vm₁).setTop { g with stack := rest }) [] mk av.toArray).1 target → Steps p.tables e below (T.setTop g) target
theorem sx_pd_ok : ∀ (k : Nat), (sx_pd k).length = k ∧ ∀ (i v : Nat), (sx_pd k)[i]? = some v → v = 7
  | 0 => ⟨rfl, fun i v h => by have h : ([] : List Nat)[i]? = some v := h; simp at h⟩
  | k + 1 => by
    obtain ⟨h1, h2⟩ := sx_pd_ok k
    refine ⟨by show (7 :: sx_pd k).length = k + 1; rw [List.length_cons, h1], fun i v h => ?_⟩
    have h : (7 :: sx_pd k)[i]? = some v := h
    cases i with
    | zero => simp at h; exact h.symm
    | succ i => rw [List.getElem?_cons_succ] at h; exact h2 i v h
/-- arguments as the callee's locals -/
theorem sx_xp_ok : ∀ {av : List Nat} {avs : List Value} {k : Nat} {Lj : List Nat} (i0 : Nat), sx_St b ad rs av avs → sx_xp av k = some Lj → (lg_sl avs).length ≤ k ∧ Lj.length = k ∧ ∀ (i v : Nat), Lj[i]? = some v → v ≠ 7 → ∃ x, (i0 + i, x) ∈ lv_args i0 avs ∧ sx_V b ad rs v x
  | [], avs, k, Lj, i0, hst, h => by
    have e := hst.nil
    subst e
    have h : some (sx_pd k) = some Lj := h
    cases h
    obtain ⟨h1, h2⟩ := sx_pd_ok k
    exact ⟨by simp [lg_sl], h1, fun i v hi h7 => absurd (h2 i v hi) h7⟩
  | v :: t, avs, k, Lj, i0, hst, h => by
    obtain ⟨x, xs, rfl, hv, hst'⟩ := hst.cons
    cases k with
    | zero => cases h
    | succ k =>
      have h : sx_if (Nat.beq (sx_tg v) 4) (Nat.rec none (fun n2 _ => Option.map (fun t => v :: 7 :: t) (sx_xp t n2)) k) (Option.map (fun u => v :: u) (sx_xp t k)) = some Lj := h
      cases h4 : Nat.beq (sx_tg v) 4 with
      | true =>
        rw [h4, sx_if_t] at h
        cases k with
        | zero => cases h
        | succ k =>
          have h : Option.map (fun t => v :: 7 :: t) (sx_xp t k) = some Lj := h
          cases hx : sx_xp t k with
          | none => rw [hx] at h; cases h
          | some t' =>
            rw [hx] at h
            have h : some (v :: 7 :: t') = some Lj := h
            cases h
            obtain ⟨q1, q2, q3⟩ := sx_xp_ok (i0 + 2) hst' hx
            have e := hv.t4 (sx_beq h4)
            subst e
            refine ⟨by simp [lg_sl, Value.category] at q1 ⊢; omega, by simp [q2], fun i u hi h7 => ?_⟩
            match i, hi with
            | 0, hi => simp at hi; subst hi; exact ⟨_, by simp [lv_args], hv⟩
            | 1, hi => simp at hi; exact absurd hi.symm h7
            | i + 2, hi =>
              rw [List.getElem?_cons_succ, List.getElem?_cons_succ] at hi
              obtain ⟨y, hy1, hy2⟩ := q3 i u hi h7
              refine ⟨y, ?_, hy2⟩
              show _ ∈ (i0, _) :: lv_args (if (Value.long (Int64.ofNat (v / 8))).category = 2 then i0 + 2 else i0 + 1) xs
              rw [if_pos (show (Value.long (Int64.ofNat (v / 8))).category = 2 from rfl), show i0 + (i + 2) = i0 + 2 + i by omega]
              exact List.mem_cons_of_mem _ hy1
      | false =>
        rw [h4, sx_if_f] at h
        cases hx : sx_xp t k with
        | none => rw [hx] at h; cases h
        | some t' =>
          rw [hx] at h
          have h : some (v :: t') = some Lj := h
          cases h
          obtain ⟨q1, q2, q3⟩ := sx_xp_ok (i0 + 1) hst' hx
          have hc := hv.c1 (sx_beq_f h4)
          refine ⟨by simp [lg_sl, hc] at q1 ⊢; omega, by simp [q2], fun i u hi h7 => ?_⟩
          cases i with
          | zero => simp at hi; subst hi; exact ⟨x, by simp [lv_args], hv⟩
          | succ i =>
            rw [List.getElem?_cons_succ] at hi
            obtain ⟨y, hy1, hy2⟩ := q3 i u hi h7
            refine ⟨y, ?_, hy2⟩
            show _ ∈ (i0, x) :: lv_args (if x.category = 2 then i0 + 2 else i0 + 1) xs
            rw [if_neg (by rw [hc]; decide), show i0 + (i + 1) = i0 + 1 + i by omega]
            exact List.mem_cons_of_mem _ hy1
theorem sx_tk_ok : ∀ {k : Nat} {S acc : List Nat} {st accv : List Value} {f : List Nat → List Nat → sx_R}, sx_tk k S acc f = some outs → sx_St b ad rs S st → sx_St b ad rs acc accv → ∃ (av rest : List Nat) (avs restv : List Value), f av rest = some outs ∧ sx_St b ad rs av (avs.reverse ++ accv) ∧ sx_St b ad rs rest restv ∧ st = avs ++ restv ∧ avs.length = k ∧ av.length = k + acc.length
  | 0, S, acc, st, accv, f, h, hst, hacc => ⟨acc, S, [], st, h, hacc, hst, rfl, rfl, by simp⟩
  | k + 1, [], acc, st, accv, f, h, hst, hacc => by cases h
  | k + 1, v :: t, acc, st, accv, f, h, hst, hacc => by
    obtain ⟨x, st', rfl, hv, hst'⟩ := hst.cons
    have h : sx_tk k t (v :: acc) f = some outs := h
    obtain ⟨av, rest, avs, restv, h1, h2, h3, h4, h5, h6⟩ := sx_tk_ok h hst' (show sx_St b ad rs (v :: acc) (x :: accv) from ⟨hv, hacc⟩)
    exact ⟨av, rest, x :: avs, restv, h1, by simpa using h2, h3, by rw [h4]; rfl, by simp [h5], by simp at h6 ⊢; omega⟩
end SXCall
end
section
/-! sx: handlers -/
section SXFind
variable {N : Nat} {ih : sx_ih} {w d mi pc n cs ss : Nat} {lst : List sx_I} {L S : List Nat} {h : sx_H} {sy : sx_Y} {outs : List sx_O}
variable {p : Program} {l : Launch} {e : Env} {R : Room} {s : State} {m : MethodId} {args : Array Value} {below : List Frame} {meth : Method} {c : Code} {D : va_G} {K : ClassId → FieldType → Prop} {b : Nat → Nat} {xs : Nat → Int32} {A : Nat → Prop} {q : sx_M}
variable {ad : List Nat} {rs : List Int32} {ls : Array Slot} {st : List Value} {H : Heap} {locs : List Loc} {cells slots : Nat} {Q : State → Prop}
theorem sx_goClass {U : State} {g : JFrame} {a : Addr} {vm1 : Vm} {x : ExceptionTableEntry} {tb : List ExceptionTableEntry} {cx : ClassId} {cell : Cell} {Q' : Handler → Pre} {E' : CtlPost} {d' : Bool} {acts : List Action} (hx : covers x g.pc = true) (h0 : x.catchType ≠ 0)
    (hgv : (Jvm.resolveClass g.method.cls x.catchType).Gives e.toSetting U.vm (.ok cx) vm1) (hsz : vm1.classes.size ≤ U.vm.classes.size) (hcell : U.heap[a]? = some cell) (hobj : ∀ k, cell.vm ≠ .statics k) (hk : ∃ k, vm1.classes[cell.cls]? = some k) (hc : ∃ k, vm1.classes[cx]? = some k) :
    wp (findHandler.go g a (x :: tb)) Q' E' e d' acts U ↔ if vm1.assignable cell.cls cx = true then Q' (.found x.handlerPc) d' acts (U.setVm vm1) else wp (findHandler.go g a tb) Q' E' e d' acts (U.setVm vm1) := by
  obtain ⟨ha, ht⟩ := hgv.op (op := VmOp.resolveClass g.method.cls x.catchType) rfl
  simp only [covers] at hx
  cases hfit : vm1.assignable cell.cls cx <;>
    simp [findHandler.go, hx, h0, ha, ht, hsz, hcell, hobj, hk, hc, hfit, VmOp.dirties, VmOp.acts]
theorem sx_caught {T : State} {g : JFrame} {a : Addr} {tgt : State} {k : Nat} {vm1 : Vm} (X : Stand p l e R s m args below meth c T locs cells slots) (hg : g.method = m) (hW : s.WarmedH vm1)
    (hfind : ∀ (Q' : Handler → Pre) (E' : CtlPost) (d' : Bool) (acts : List Action), wp (findHandler g a) Q' E' e d' acts ((T.setTop g).pushFrame (.throwing a)) ↔ Q' (.found k) d' acts (((T.setVm vm1).setTop g).pushFrame (.throwing a)))
    (hrest : Steps p.tables e below ((T.setVm vm1).setTop { g with pc := k, stack := [.ref a] }) tgt) : Steps p.tables e below ((T.setTop g).pushFrame (.throwing a)) tgt := by
  subst hg
  have h := X.here
  obtain ⟨hgo, hw⟩ := h.throwing a
  refine Steps.head hgo hw ?_
  rw [stepThread_throwing (frames_entered h.top _)]
  have hs : (stepThrowing e ((T.setTop g).pushFrame (.throwing a)) a (.java g :: T.frames.tail)).Is ((((T.setVm vm1).setTop g).pushFrame (.throwing a)).setFrames (.java { g with pc := k, stack := [.ref a] } :: T.frames.tail)) [] := by
    simp only [stepThrowing, searchFrame, vmDo]
    generalize hr : Sem.go _ e false [] ((T.setTop g).pushFrame (.throwing a)) = res
    obtain ⟨as, rfl, ha⟩ := Sem.eq_ok_of hr (a := Handler.found k) (s' := ((T.setVm vm1).setTop g).pushFrame (.throwing a)) (acts' := []) (by simp [hfind _ _ _ _])
    exact ⟨rfl, ha⟩
  rw [hs.1]
  obtain ⟨g₀, hg0⟩ := Option.isSome_iff_exists.mp h.top
  obtain ⟨r, hr⟩ := State.topJava?_eq_some.mp hg0
  have hr1 : (T.setVm vm1).frames = .java g₀ :: r := hr
  rw [State.setTop_of_frames _ hr1] at hrest
  rw [State.pushFrame, State.setTop_of_frames _ hr1, State.setFrames_setFrames, State.setFrames_setFrames, hr]
  exact hrest
theorem sx_setVm_thr (T : State) (g : JFrame) (a : Addr) (vm0 vm1 : Vm) : (((T.setVm vm0).setTop g).pushFrame (.throwing a)).setVm vm1 = ((T.setVm vm1).setTop g).pushFrame (.throwing a) := rfl
theorem sx_exc_nd : ∀ i, i < 5 → ∀ j, j < 5 → sx_exc[i]? = sx_exc[j]? → i = j := by decide +kernel
theorem sx_exc_lt {i : Nat} {x : String} (h : sx_exc[i]? = some x) : i < 5 := (List.getElem?_eq_some_iff.mp h).1
theorem sx_find {T : State} {g : JFrame} {a : Addr} {cell : Cell} {E : Nat} {nm : String} (hpl : e.platform.magicAccessors = ({} : Platform).magicAccessors) (hg : g.method = m) (hT : sx_Tb D K s) (hown : s.vm.findClass q.1.cls = some m.cls) (hE : sx_exc[E]? = some nm) (hcell : T.heap[a]? = some cell) (hcls : s.vm.findClass nm = some cell.cls) (hvm : cell.vm = .none) :
    ∀ (hh : List (Nat × Nat × Nat × Nat × Nat)) (tb : List ExceptionTableEntry), hh.length = tb.length →
      (∀ z ∈ hh.zip (tb.map (fun h => (h.startPc, h.endPc, h.handlerPc, h.catchType))), z.1.1 = z.2.1 ∧ z.1.2.1 = z.2.2.1 ∧ z.1.2.2.1 = z.2.2.2.1 ∧ z.2.2.2.2 ≠ 0 ∧ ∃ t, sx_cl[z.1.2.2.2.2]? = some t ∧ t.1 = q.1.cls ∧ t.2.1 = z.2.2.2.2 ∧ sx_exc[z.1.2.2.2.1]? = some t.2.2) →
      sx_hnd g.pc hh E ≠ 0 → ∀ vm₀, s.WarmedH vm₀ → ∃ vm₁, s.WarmedH vm₁ ∧ ∀ (Q' : Handler → Pre) (E' : CtlPost) (d' : Bool) (acts : List Action), wp (findHandler.go g a tb) Q' E' e d' acts (((T.setVm vm₀).setTop g).pushFrame (.throwing a)) ↔ Q' (.found (sx_hnd g.pc hh E - 1)) d' acts (((T.setVm vm₁).setTop g).pushFrame (.throwing a)) := by
  intro hh
  induction hh with
  | nil => intro tb _ _ h0; exact absurd rfl h0
  | cons z hh ihh =>
    intro tb hlen hz h0 vm₀ hW₀
    cases tb with
    | nil => simp at hlen
    | cons x tb =>
      obtain ⟨z1, z2, z3, z4, t, ht, t1, t2, t3⟩ := hz (z, (x.startPc, x.endPc, x.handlerPc, x.catchType)) (by simp)
      dsimp only at z1 z2 z3 z4 t2
      have hrec := ihh tb (by simpa using hlen) (fun w hw => hz w (by simp only [List.map_cons, List.zip_cons_cons]; exact List.mem_cons_of_mem _ hw))
      have hdef : sx_hnd g.pc (z :: hh) E = sx_if (sx_and (Nat.ble z.1 g.pc) (sx_and (Nat.blt g.pc z.2.1) (Nat.beq z.2.2.2.1 E))) (Nat.succ z.2.2.1) (sx_hnd g.pc hh E) := rfl
      cases hcov : covers x g.pc with
      | true =>
        have hcv := hcov
        simp only [covers, Bool.and_eq_true, decide_eq_true_eq] at hcv
        have hcl0 := hT.1 #[] _ (sx_cl_in ht)
        rw [t1, t2] at hcl0
        obtain ⟨cx, hcx, hcl⟩ := Cond.classLink_spec hown hcl0 e.platform hpl
        obtain ⟨dk, _, _, kt, hd, _, _, _, _, hkt, _, hopen⟩ := hcl.here
        have hclv := hW₀.classLinks hcl
        have hW₁ : s.WarmedH (vm₀.noted m.cls x.catchType (.cls cx)) := hW₀.noted hd hopen (State.rightAt_cls hcl)
        obtain ⟨c1, c2, q1, q2, q3⟩ := hT.2.2.2.1 nm (List.mem_of_getElem? hE) t.2.2 (List.mem_of_getElem? t3)
        cases hcls.symm.trans q1
        cases hcx.symm.trans q2
        obtain ⟨ke, hke⟩ := Vm.classAt_of_findClass hcls
        obtain ⟨ke', hke', -⟩ := hW₁.alike.2.2 _ _ hke
        obtain ⟨kt', hkt', -⟩ := hW₁.alike.2.2 _ _ hkt
        have hgo : ∀ (Q' : Handler → Pre) (E' : CtlPost) (d' : Bool) (acts : List Action), wp (findHandler.go g a (x :: tb)) Q' E' e d' acts (((T.setVm vm₀).setTop g).pushFrame (.throwing a)) ↔ if (vm₀.noted m.cls x.catchType (.cls cx)).assignable cell.cls cx = true then Q' (.found x.handlerPc) d' acts (((T.setVm (vm₀.noted m.cls x.catchType (.cls cx))).setTop g).pushFrame (.throwing a)) else wp (findHandler.go g a tb) Q' E' e d' acts (((T.setVm (vm₀.noted m.cls x.catchType (.cls cx))).setTop g).pushFrame (.throwing a)) :=
          fun Q' E' d' acts => sx_goClass (U := ((T.setVm vm₀).setTop g).pushFrame (.throwing a)) hcov z4 (by rw [hg]; exact resolveClass_links e.toSetting hclv) (by show (vm₀.noted m.cls x.catchType (.cls cx)).classes.size ≤ vm₀.classes.size; simp [Vm.noted]) hcell (fun k hk => by rw [hvm] at hk; cases hk) ⟨ke', hke'⟩ ⟨kt', hkt'⟩
        have hasg : ((vm₀.noted m.cls x.catchType (.cls cx)).assignable cell.cls cx = true) ↔ nm = t.2.2 := by rw [hW₁.alike.assignable]; exact q3
        have b1 : Nat.ble z.1 g.pc = true := Nat.ble_eq_true_of_le (by rw [z1]; exact hcv.1)
        have b2 : Nat.blt g.pc z.2.1 = true := sx_blt_t (by rw [z2]; exact hcv.2)
        by_cases hEE : z.2.2.2.1 = E
        · have hnm : nm = t.2.2 := by rw [hEE, hE] at t3; exact Option.some.inj t3
          refine ⟨_, hW₁, fun Q' E' d' acts => (hgo Q' E' d' acts).trans ?_⟩
          rw [if_pos (hasg.mpr hnm), hdef, b1, b2, sx_beq_t hEE]
          show _ ↔ Q' (.found (z.2.2.1 + 1 - 1)) _ _ _
          rw [Nat.add_sub_cancel, z3]
        · have hnm : ¬ nm = t.2.2 := fun h => hEE (sx_exc_nd _ (sx_exc_lt t3) _ (sx_exc_lt hE) (by rw [t3, hE, h]))
          have hd2 : sx_hnd g.pc (z :: hh) E = sx_hnd g.pc hh E := by rw [hdef, b1, b2, sx_beq_e hEE]; rfl
          rw [hd2] at h0 ⊢
          obtain ⟨vm₁, w1, w2⟩ := hrec h0 _ hW₁
          refine ⟨vm₁, w1, fun Q' E' d' acts => (hgo Q' E' d' acts).trans ?_⟩
          rw [if_neg (fun h => hnm (hasg.mp h))]
          exact w2 Q' E' d' acts
      | false =>
        have hd2 : sx_hnd g.pc (z :: hh) E = sx_hnd g.pc hh E := by
          rw [hdef]
          cases b1 : Nat.ble z.1 g.pc with
          | false => rfl
          | true =>
            cases b2 : Nat.blt g.pc z.2.1 with
            | false => rfl
            | true =>
              exfalso
              have h1 := sx_ble b1
              have h2 := sx_blt b2
              rw [z1] at h1
              rw [z2] at h2
              simp only [covers, Bool.and_eq_false_iff, decide_eq_false_iff_not] at hcov
              omega
        rw [hd2] at h0 ⊢
        obtain ⟨vm₁, w1, w2⟩ := hrec h0 _ hW₀
        refine ⟨vm₁, w1, fun Q' E' d' acts => (Jvm.W.findHandler_go_skip hcov).trans (w2 Q' E' d' acts)⟩
end SXFind
end
section
/-! sx: what comes back -/
section SXBack
variable {N : Nat} {ih : sx_ih} {w d mi pc n cs ss : Nat} {lst : List sx_I} {L S : List Nat} {h : sx_H} {sy : sx_Y} {outs : List sx_O}
variable {p : Program} {l : Launch} {e : Env} {R : Room} {s : State} {m : MethodId} {args : Array Value} {below : List Frame} {meth : Method} {c : Code} {D : va_G} {K : ClassId → FieldType → Prop} {b : Nat → Nat} {xs : Nat → Int32} {A : Nat → Prop} {q : sx_M}
variable {ad : List Nat} {rs : List Int32} {ls : Array Slot} {st : List Value} {H : Heap} {locs : List Loc} {cells slots : Nat} {Q : State → Prop}
theorem sx_Lc.store7 (hl : sx_Lc b ad rs L ls) {i : Nat} {x : Value} {ls' : Array Slot} (hi : i < L.length) (hp : i = 0 ∨ sx_ln L (i - 1) % 8 ≠ 4)
    (h' : lv_has ls' ls.size ((i, x) :: (sx_all ls).filter (fun q => !(q.1 == i) && !(q.1 + 1 == i && q.2.category == 2)))) : sx_Lc b ad rs (L.set i 7) ls' := by
  refine ⟨by rw [h'.1, List.length_set]; exact hl.1, h'.2.1, fun j u hj h7 => ?_⟩
  by_cases hji : j = i
  · subst hji
    rw [List.getElem?_set_self hi] at hj
    cases hj
    exact absurd rfl h7
  · rw [List.getElem?_set_ne (Ne.symm hji)] at hj
    obtain ⟨y, hy, hvy⟩ := hl.2.2 j u hj h7
    refine ⟨y, h'.2.2 (j, y) (List.mem_cons_of_mem _ (List.mem_filter.mpr ⟨sx_all_mem.mpr hy, ?_⟩)), hvy⟩
    have hcat : ¬ (j + 1 = i ∧ y.category = 2) := by
      rintro ⟨hj1, hc⟩
      have : sx_ln L (i - 1) = u := by rw [sx_ln_eq, show i - 1 = j by omega, List.getD_eq_getElem?_getD, hj]; rfl
      rw [this] at hp
      have h4 : u % 8 ≠ 4 := hp.resolve_left (by omega)
      rw [hvy.c1 h4] at hc
      cases hc
    simp only [Bool.and_eq_true, Bool.not_eq_true', beq_eq_false_iff_ne, ne_eq, Bool.and_eq_false_imp, beq_iff_eq]
    exact ⟨hji, fun hj1 hc => hcat ⟨hj1, hc⟩⟩
theorem sx_cont_ok {rest : List Nat} {hid : Nat} : ∀ {outsj outs : List sx_O}, sx_cont ih d mi (sx_mt mi).1 lst pc L rest hid outsj = some outs → ∀ (kd v : Nat) (h' : sx_H) (n' : Nat) (sy' : sx_Y) (cs' ss' : Nat), (kd, v, h', n', sy', cs', ss') ∈ outsj → ∃ outs', (∀ o ∈ outs', o ∈ outs) ∧
      (if kd = 0 then ih d mi (sx_mt mi).1 lst false (pc + 3) L rest h' n' sy' cs' ss' else if kd = 1 then ih d mi (sx_mt mi).1 lst false (pc + 3) L (v :: rest) h' n' sy' cs' ss' else sx_thr ih d mi (sx_mt mi).1 lst pc L hid (kd - 2) h' n' sy' cs' ss') = some outs'
  | [], outs, _, kd, v, h', n', sy', cs', ss', hm => by cases hm
  | o :: r, outs, h, kd, v, h', n', sy', cs', ss', hm => by
    obtain ⟨x, y, hx, hy, e⟩ := sx_app_ok h
    rcases List.mem_cons.mp hm with rfl | hm
    · refine ⟨x, fun o ho => by rw [e]; exact List.mem_append_left _ ho, ?_⟩
      have hx : sx_if (Nat.beq kd 0) (sx_fo (Nat.add pc 3) (fun pc' => ih d mi (sx_mt mi).1 lst false pc' L rest h' n' sy' cs' ss')) (sx_if (Nat.beq kd 1) (sx_fo (Nat.add pc 3) (fun pc' => ih d mi (sx_mt mi).1 lst false pc' L (v :: rest) h' n' sy' cs' ss')) (sx_thr ih d mi (sx_mt mi).1 lst pc L hid (Nat.sub kd 2) h' n' sy' cs' ss')) = some x := hx
      simp only [sx_fo_eq] at hx
      by_cases k0 : kd = 0
      · rw [sx_beq_t k0, sx_if_t] at hx; rw [if_pos k0]; exact hx
      · rw [sx_beq_e k0, sx_if_f] at hx
        rw [if_neg k0]
        by_cases k1 : kd = 1
        · rw [sx_beq_t k1, sx_if_t] at hx; rw [if_pos k1]; exact hx
        · rw [sx_beq_e k1, sx_if_f] at hx; rw [if_neg k1]; exact hx
    · obtain ⟨outs', q1, q2⟩ := sx_cont_ok hy kd v h' n' sy' cs' ss' hm
      exact ⟨outs', fun o ho => by rw [e]; exact List.mem_append_right _ (q1 o ho), q2⟩
theorem sx_at_none {e' : va_E} {a : Nat} {cell : Cell} (h : va_at D sx_classes (a, e') H) (hc : H[a]? = some cell) : cell.vm = .none := by
  cases e' with
  | inl x =>
    obtain ⟨cA, k, y⟩ := x
    have h : H[a]? = some (vp_cell cA (k, y)) := h
    cases hc.symm.trans h
    rcases y with f | f | f | f | f <;> rfl
  | inr o =>
    obtain ⟨r, h1, cl, h2, h3, h4, h5⟩ := h
    cases hc.symm.trans h2
    exact h4
theorem sx_hB_ok {hid : Nat} (h : sx_hB hid q = true) : (hid = 0 → q.2.2.2.2 = []) ∧ (hid ≠ 0 → ∃ hh, sx_hands[hid]? = some hh ∧ hh.length = q.2.2.2.2.length ∧ ∀ z ∈ hh.zip q.2.2.2.2, z.1.1 = z.2.1 ∧ z.1.2.1 = z.2.2.1 ∧ z.1.2.2.1 = z.2.2.2.1 ∧ z.2.2.2.2 ≠ 0 ∧ ∃ t, sx_cl[z.1.2.2.2.2]? = some t ∧ t.1 = q.1.cls ∧ t.2.1 = z.2.2.2.2 ∧ sx_exc[z.1.2.2.2.1]? = some t.2.2) := by
  unfold sx_hB at h
  refine ⟨fun h0 => by rw [if_pos h0] at h; exact of_decide_eq_true h, fun h0 => ?_⟩
  rw [if_neg h0] at h
  obtain ⟨hh, h1, h2⟩ := sx_oa_ok h
  simp only [Bool.and_eq_true, decide_eq_true_eq] at h2
  refine ⟨hh, h1, h2.1, fun z hz => ?_⟩
  have h3 := List.all_eq_true.mp h2.2 z hz
  simp only [Bool.and_eq_true, decide_eq_true_eq] at h3
  obtain ⟨a1, a2, a3, a4, a5⟩ := h3
  obtain ⟨t, ht, a5⟩ := sx_oa_ok a5
  simp only [Bool.and_eq_true, decide_eq_true_eq] at a5
  obtain ⟨X, hX, hX2⟩ := sx_oa_ok a5.2.2
  exact ⟨a1, a2, a3, a4, t, ht, a5.1, a5.2.1, by rw [← of_decide_eq_true hX2]; exact hX⟩
theorem sx_back (IH : sx_Ok N ih) (hC : sx_Cx p e R s m meth c D K b N xs A mi d q) (hLc : sx_Lc b ad rs L ls) (hrest : sx_Yok rs sy ∧ sx_G D K b A ad rs h n H ∧ va_S A s.heap H locs ∧ (∀ k, k < N → rs[k]? = some (xs k)) ∧ 600002 + cells ≤ R.cells + cs ∧ 7302232 + slots ≤ R.slots + ss ∧ L.length = c.maxLocals) (hL : sx_Ls p l e R s m args below meth c D K b N xs A Q ad rs lst) (hQ : ∀ o ∈ outs, ∀ t, sx_En R s below D K b A ad rs o t → Q t) {T2 : State} {a : Addr} {cell : Cell} {E : Nat} {nm : String} (hM : sx_Mok mi q) (X : Stand p l e R s m args below meth c T2 locs cells slots) (hH : T2.heap = H) (hE : sx_exc[E]? = some nm) (hcell : H[a]? = some cell) (hcls : s.vm.findClass nm = some cell.cls) (hvm : cell.vm = .none) (hr : sx_thr ih d mi (sx_mt mi).1 lst pc L (sx_ihd (sx_mt mi).2) E h n sy cs ss = some outs) {restv : List Value} :
    ∃ t, Steps p.tables e below ((T2.setTop (F0 m pc ls restv)).pushFrame (.throwing a)) t ∧ Q t := by
  obtain ⟨-, hx, -, hb, hml, -, -, hex, hown, hlocks, hT, -⟩ := id hC
  obtain ⟨hY, hG, hS, hxs, hr1, hr2, hr3⟩ := id hrest
  obtain ⟨hb0, hb1⟩ := sx_hB_ok hM.2.2.2.2.1
  unfold sx_thr at hr
  cases h0 : Nat.beq (sx_ihd (sx_mt mi).2) 0 with
  | true =>
    rw [h0, sx_if_t] at hr
    cases hr
    have hex0 : c.exceptionTable.toList = [] := by
      rw [hb0 (sx_beq h0)] at hex
      exact List.map_eq_nil_iff.mp hex
    obtain ⟨w1, w2, w3, w4, w5⟩ := X.leaveThrown a (g := F0 m pc ls restv) rfl rfl rfl (by rw [hex0]; intro x hx; cases hx) hlocks
    refine ⟨_, w1, hQ _ (List.mem_singleton.mpr rfl) _ ⟨.threw a, ad, rs, locs, cells, slots, w2, w3, w4, w5, List.prefix_rfl, List.prefix_rfl, hY, ?_, ?_, hr1, hr2, Or.inr (Or.inr ⟨E, nm, Nat.add_comm _ _, hE, a, cell, rfl, ?_, hcls, hvm⟩)⟩⟩
    · show sx_G D K b A ad rs h n T2.heap; rw [hH]; exact hG
    · show va_S A s.heap T2.heap locs; rw [hH]; exact hS
    · show T2.heap[a]? = some cell; rw [hH]; exact hcell
  | false =>
    rw [h0, sx_if_f] at hr
    obtain ⟨hh, hhh, hr⟩ := sx_opt_ok hr
    rw [sx_nth_eq] at hhh
    simp only [sx_fo_eq] at hr
    cases ht0 : Nat.beq (sx_hnd pc hh E) 0 with
    | true => rw [ht0] at hr; cases hr
    | false =>
    rw [ht0, sx_if_f] at hr
    obtain ⟨hc, hr⟩ := sx_if_ok hr
    obtain ⟨o3, hc⟩ := sx_and_ok hc
    obtain ⟨o4, hc⟩ := sx_and_ok hc
    obtain ⟨o5, o6⟩ := sx_and_ok hc
    have hp := sx_st_ok o5
    obtain ⟨hh', k1, k2, k3⟩ := hb1 (sx_beq_f h0)
    cases hhh.symm.trans k1
    rw [← hex] at k2 k3
    have hpl : e.platform.magicAccessors = ({} : Platform).magicAccessors := by rw [X.admits.platform]
    obtain ⟨vm₁, hW₁, hfind⟩ := sx_find (T := T2) (g := F0 m pc ls restv) hpl rfl hT hown hE (by rw [hH]; exact hcell) hcls hvm hh c.exceptionTable.toList (by rw [k2, List.length_map]) k3 (sx_beq_f ht0) T2.vm X.warmed
    have hkey : W p l e R s m args below meth c H locs cells slots Q (F0 m (sx_hnd pc hh E - 1) ls [.ref a]) := by
      obtain ⟨len, hmw⟩ := hM.1
      have hwd := sx_mw_ok hmw (sx_hnd pc hh E - 1) (by rw [show sx_op (sx_ft (sx_mt mi).1 (sx_hnd pc hh E - 1)) = 3 from sx_beq o3]; decide)
      generalize hw : sx_ft (sx_mt mi).1 (sx_hnd pc hh E - 1) = w' at hwd
      have hr : sx_stK 7 L (sx_wa w') (fun L => ih d mi (sx_mt mi).1 lst false (Nat.add (sx_hnd pc hh E - 1) (Nat.mod (sx_wb w') 16)) L [] h n sy cs ss) = some outs := by rw [← hw]; exact hr
      have o3 : sx_op w' = 3 := by rw [← hw]; exact sx_beq o3
      have o4 : sx_wb w' / 16 = 1 := by rw [← hw]; exact sx_beq o4
      have o6 : sx_wa w' < L.length := by rw [← hw]; exact sx_blt o6
      have hp : sx_wa w' = 0 ∨ sx_ln L (sx_wa w' - 1) % 8 ≠ 4 := by rw [← hw]; exact hp
      rw [sx_stK_eq] at hr
      unfold sx_wd at hwd
      rw [o3] at hwd
      have hwd : sx_k3 q (sx_hnd pc hh E - 1) w' = true := hwd
      unfold sx_k3 at hwd
      rw [if_neg (show ¬ sx_wb w' = 1 by omega), if_neg (show ¬ sx_wb w' = 2 by omega)] at hwd
      have fin : ∀ ls', lv_has ls' ls.size ((sx_wa w', Value.ref a) :: (sx_all ls).filter (fun q => !(q.1 == sx_wa w') && !(q.1 + 1 == sx_wa w' && q.2.category == 2))) → W p l e R s m args below meth c H locs cells slots Q (F0 m (Nat.add (sx_hnd pc hh E - 1) (Nat.mod (sx_wb w') 16)) ls' []) := fun ls' hl' => sx_go IH hr hC ⟨hLc.store7 o6 hp hl', trivial, hY, hG, hS, hxs, hr1, hr2, by rw [List.length_set]; exact hr3⟩ hL List.prefix_rfl List.prefix_rfl (fun _ h => h) hQ
      by_cases w17 : sx_wb w' = 17
      · rw [if_pos w17] at hwd
        simp only [Bool.and_eq_true, decide_eq_true_eq] at hwd
        rw [w17] at fin
        exact lv_astore_n hx hb (sx_dc_ok hwd.2) (Nat.mod_eq_of_lt hwd.1) (sx_all_has hLc.2.1) (by rw [hLc.1]; exact o6) rfl fin
      · rw [if_neg w17] at hwd
        by_cases w18 : sx_wb w' = 18
        · rw [if_pos w18] at hwd
          rw [w18] at fin
          exact lv_astore hx hb (sx_dc_ok hwd) (sx_all_has hLc.2.1) (by rw [hLc.1]; exact o6) rfl fin
        · rw [if_neg w18] at hwd
          exfalso
          by_cases w33 : sx_wb w' = 33
          · omega
          · rw [if_neg w33] at hwd
            simp only [Bool.and_eq_true, decide_eq_true_eq] at hwd
            omega
    obtain ⟨t, s1, s2⟩ := hkey (T2.setVm vm₁) hH (X.noted hW₁)
    refine ⟨t, sx_caught (g := F0 m pc ls restv) (k := sx_hnd pc hh E - 1) (vm1 := vm₁) X rfl hW₁ (fun Q' E' d' acts => ?_) s1, s2⟩
    rw [Jvm.W.findHandler_eq (f := F0 m pc ls restv) (s := (T2.setTop (F0 m pc ls restv)).pushFrame (.throwing a)) (meth := meth) (code := c) X.method' X.code]
    exact hfind Q' E' d' acts
end SXBack
end
section
/-! sx: a call and what it gives -/
section SXInv
variable {N : Nat} {ih : sx_ih} {w d mi pc n cs ss : Nat} {lst : List sx_I} {L S : List Nat} {h : sx_H} {sy : sx_Y} {outs : List sx_O}
variable {p : Program} {l : Launch} {e : Env} {R : Room} {s : State} {m : MethodId} {args : Array Value} {below : List Frame} {meth : Method} {c : Code} {D : va_G} {K : ClassId → FieldType → Prop} {b : Nat → Nat} {xs : Nat → Int32} {A : Nat → Prop} {q : sx_M}
variable {ad : List Nat} {rs : List Int32} {ls : Array Slot} {st : List Value} {H : Heap} {locs : List Loc} {cells slots : Nat} {Q : State → Prop}
theorem sx_inv (IH : sx_Ok N ih) (hC : sx_Cx p e R s m meth c D K b N xs A mi d q) (hA : sx_At R s c D K b N xs A ad rs cells slots locs L S h n sy cs ss ls st H) (hL : sx_Ls p l e R s m args below meth c D K b N xs A Q ad rs lst) (hQ : ∀ o ∈ outs, ∀ t, sx_En R s below D K b A ad rs o t → Q t) {mj : Nat} {av rest : List Nat} {avs restv : List Value} {r : sx_M} (hMO : sx_MO) (hM : sx_Mok mi q) (hr : sx_call ih d mi (sx_mt mi).1 lst pc L h n sy cs ss av rest mj = some outs) (hav : sx_St b ad rs av avs) (hre : sx_St b ad rs rest restv) (hmr : sx_ms[mj]? = some r) (hm0 : mj ≠ 0)
    (hfire : ∀ T, T.heap = H → Stand p l e R s m args below meth c T locs cells slots → sx_Fi p l e R s m args below meth c T locs cells slots (F0 m pc ls st) restv r.1 avs) : W p l e R s m args below meth c H locs cells slots Q (F0 m pc ls st) := by
  obtain ⟨-, hx, htr, hb, hml, -, -, hex, hown, hlocks, hT, hSx, hX, hbl, hbA, hAl, hst, hfr, hlo⟩ := id hC
  obtain ⟨hLc, hSt, hY, hG, hS, hxs, hr1, hr2, hr3⟩ := id hA
  cases d with
  | zero => cases hr
  | succ d =>
  have hr : sx_mtK mj (fun cj fj => sx_mtK mi (fun _ f => sx_if (sx_and (sx_and (Nat.blt 0 cj) (Nat.ble (Nat.add (Nat.mul 2 (List.length rest)) (sx_im fj)) 89)) (sx_and (Nat.ble cs 600002) (Nat.ble ss 7302232))) (Option.rec none (fun Lj => Option.rec none (fun outs => sx_cont ih (d + 1) mi (sx_mt mi).1 lst pc L rest (sx_ihd f) outs) (ih d mj cj [] false 0 Lj [] h n sy cs ss)) (sx_xp av (sx_im fj))) none)) = some outs := hr
  rw [sx_mtK_eq, sx_mtK_eq] at hr
  obtain ⟨hc, hr⟩ := sx_if_ok hr
  obtain ⟨hc, hcs⟩ := sx_and_ok hc
  obtain ⟨c2, c3⟩ := sx_and_ok hcs
  have c2 : cs ≤ 600002 := sx_ble c2
  have c3 : ss ≤ 7302232 := sx_ble c3
  obtain ⟨c0, c1⟩ := sx_and_ok hc
  have c0 : 0 < (sx_mt mj).1 := sx_blt c0
  have c1 : 2 * rest.length + sx_im (sx_mt mj).2 ≤ 89 := sx_ble c1
  obtain ⟨Lj, hLj, hr⟩ := sx_opt_ok hr
  obtain ⟨outsj, hrun, hcont⟩ := sx_opt_ok hr
  have hMj := hMO mj r hmr c0
  obtain ⟨mk, methk, ck, n1, n2, n3, n4, n5, n6, n7, n8, n9, n10⟩ := sx_meth hT hm0 hMj
  intro T hTH X
  obtain ⟨vm₁, mk', ig, X₁, hnm, hdg, hgo⟩ := hfire T hTH X
  cases hnm.symm.trans n1
  have hcc : cells ≤ R.cells ∧ slots ≤ R.slots := by omega
  have hsum := hre.sum
  have hmk : (T.setVm vm₁).vm.method? mk = some methk := (X₁.warmed.alike.method? mk).trans n2
  have hpk : (T.setVm vm₁).plainMethod mk := State.plainMethod.of_named hMj.2.2.1 (X₁.named n1) hmk
  have him : sx_im (sx_mt mj).2 = ck.maxLocals := by rw [hMj.2.1, n5]
  obtain ⟨Y, hdo⟩ := X₁.into (g := F0 m pc ls restv) rfl (by show ls.size = _; rw [hLc.1, hr3]) hdg avs.toArray (R' := { frames := d + 8, cells := R.cells - cells, slots := R.slots - slots, locals := 100 * (d + 2) }) hmk n3 n7 hpk (by show d + 8 + 1 ≤ R.frames; omega) (by show 2 * 0 + (restv.map fun v => v.category).sum + (ck.maxLocals + 11) + 100 * (d + 2) ≤ R.locals; rw [← him]; omega) (by show cells + (R.cells - cells) ≤ R.cells; omega) (by show slots + (R.slots - slots) ≤ R.slots; omega)
  have hadA : ∀ x, x ∈ ad → A x ∧ ∃ cell, H[x]? = some cell ∧ cell.vm = .none := by
    obtain ⟨ws, hP, hD, g3, -⟩ := hG
    intro x hx
    rw [← g3] at hx
    obtain ⟨qq, hq1, rfl⟩ := List.mem_map.mp hx
    obtain ⟨k, hk⟩ := List.getElem?_of_mem hq1
    have hlt := (hP k qq hk).lt
    exact ⟨hD.2 k qq hk, _, Array.getElem?_eq_getElem hlt, sx_at_none (hP k qq hk) (Array.getElem?_eq_getElem hlt)⟩
  have hAA : ∀ x, (x ∈ ad ∨ H.size ≤ x) → A x := fun x hx => by
    rcases hx with hx | hx
    · exact (hadA x hx).1
    · exact hAl x (Nat.le_trans hS.1 hx)
  obtain ⟨x1, x2, x3⟩ := sx_xp_ok 0 hav hLj
  have hent := lv_entry avs x1
  have key := IH d mj [] false 0 Lj [] h n sy cs ss outsj hrun p l e { frames := d + 8, cells := R.cells - cells, slots := R.slots - slots, locals := 100 * (d + 2) } ((T.setVm vm₁).calling (F0 m pc ls restv) mk avs.toArray) mk avs.toArray (.java (F0 m pc ls restv) :: below) methk ck D K b xs (fun x => x ∈ ad ∨ H.size ≤ x) r ad rs _ [] H [] 0 0
    (fun t => ∃ o ∈ outsj, sx_En { frames := d + 8, cells := R.cells - cells, slots := R.slots - slots, locals := 100 * (d + 2) } ((T.setVm vm₁).calling (F0 m pc ls restv) mk avs.toArray) (.java (F0 m pc ls restv) :: below) D K b (fun x => x ∈ ad ∨ H.size ≤ x) ad rs o t)
    ⟨hmr, hx, htr, n4, n5, n6, n10, n8, by show (T.setVm vm₁).vm.findClass r.1.cls = some mk.cls; rw [X₁.warmed.alike.findClass]; exact findClass_of_methodNamed n1, n7, hT.warm X₁.warmed,
      by
        have hq : ∀ a : Nat, a < s.heap.size → ¬ A a → T.heap[a]? = s.heap[a]? := by rw [hTH]; exact hS.2.1
        refine ⟨((hSx.1.moved X₁.warmed.alike).kept hq).narrow (fun x _ hx => hAA x hx), ((hSx.2.1.moved X₁.warmed.alike).kept hq).narrow (fun x _ hx => hAA x hx), ((hSx.2.2.warm X₁.warmed).kept hq).narrow (fun x hx => hAA x hx)⟩,
      (hX.kept (by show T.heap[b 0]? = _; rw [hTH]; exact hS.2.1 (b 0) hbl hbA)).moved X₁.warmed.alike, by show b 0 < T.heap.size; rw [hTH]; exact Nat.lt_of_lt_of_le hbl hS.1, fun hx => hbA (hAA (b 0) hx), fun x hx => Or.inr (by rw [← hTH]; exact hx),
      fun x cell hx hc => by
        have hc : H[x]? = some cell := by rw [← hTH]; exact hc
        rcases hx with hx | hx
        · obtain ⟨-, cell', h1, h2⟩ := hadA x hx
          cases h1.symm.trans hc
          rw [h2]; rfl
        · have := (Array.getElem?_eq_some_iff.mp hc).1; omega,
      Nat.le_refl _, Nat.le_refl _⟩
    ⟨⟨by rw [hent.1, x2], hent.2.1, fun i v hi h7 => by obtain ⟨y, hy1, hy2⟩ := x3 i v hi h7; rw [Nat.zero_add] at hy1; exact ⟨y, hent.2.2 (i, y) hy1, hy2⟩⟩, trivial, hY, hG.weaken (fun x hx _ => Or.inl hx), by rw [show ((T.setVm vm₁).calling (F0 m pc ls restv) mk avs.toArray).heap = H from hTH]; exact va_S.rf, hxs, by show 600002 + 0 ≤ R.cells - cells + cs; omega, by show 7302232 + 0 ≤ R.slots - slots + ss; omega, by rw [x2, him]⟩
    (fun _ _ _ _ _ _ _ _ _ _ _ hi => by cases hi) (fun o ho t ht => ⟨o, ho, ht⟩)
  rw [him] at key
  rw [← lg_entry_eq] at key
  obtain ⟨t, st1, ⟨kd, v, h', n', sy', cs', ss'⟩, ho, oc, ad', rs', locs', cells', slots', e1, e2, e3, e4, e5, e6, e7, e8, e9, e10, e11, e12⟩ := key (((T.setVm vm₁).setTop (F0 m pc ls restv)).pushFrame (.java (entryFrame mk avs.toArray ck.maxLocals))) hTH Y
  dsimp only at e7 e8 e10 e11 e12
  have e9 : va_S (fun x => x ∈ ad ∨ H.size ≤ x) H t.heap locs' := by
    have h := e9
    rw [show ((T.setVm vm₁).calling (F0 m pc ls restv) mk avs.toArray).heap = H from hTH] at h
    exact h
  have hS' : va_S A s.heap t.heap (locs ++ locs') := by
    refine ⟨Nat.le_trans hS.1 e9.1, fun x h1 h2 => ?_, fun z hz => ?_⟩
    · rw [← hS.2.1 x h1 h2]
      exact e9.2.1 x (Nat.lt_of_lt_of_le h1 hS.1) (fun hx => h2 (hAA x hx))
    · rcases List.mem_append.mp hz with hz | hz
      · exact hS.2.2 z hz
      · exact hAA _ (e9.2.2 z hz)
  have hG' : sx_G D K b A ad' rs' h' n' t.heap := e8.weaken (fun x _ hx => hAA x hx)
  obtain ⟨outs', o1, o2⟩ := sx_cont_ok hcont kd v h' n' sy' cs' ss' ho
  have hrest' : ∀ L' : List Nat, L'.length = c.maxLocals → sx_Yok rs' sy' ∧ sx_G D K b A ad' rs' h' n' t.heap ∧ va_S A s.heap t.heap (locs ++ locs') ∧ (∀ k, k < N → rs'[k]? = some (xs k)) ∧ 600002 + (cells + cells') ≤ R.cells + cs' ∧ 7302232 + (slots + slots') ≤ R.slots + ss' ∧ L'.length = c.maxLocals := fun L' hl => ⟨e7, hG', hS', fun k hk => sx_pre e6 (hxs k hk), by have : 600002 + cells' ≤ R.cells - cells + cs' := e10; omega, by have : 7302232 + slots' ≤ R.slots - slots + ss' := e11; omega, hl⟩
  have hdo1 : Steps p.tables e below (doInvoke e ((T.setVm vm₁).setTop (F0 m pc ls restv)) [] mk avs.toArray).1 t := by rw [hdo []]; exact sx_lower st1
  rcases e12 with ⟨k0, rfl⟩ | ⟨k1, x, rfl, hv⟩ | ⟨E, nm, kE, hE, a, cell, rfl, hcell, hcls, hcvm⟩
  · rw [if_pos k0] at o2
    obtain ⟨T2, X2, -, -, ht⟩ := X₁.outOf (g := F0 m pc ls restv) rfl hdg e2 e3 e4
    have hh2 : T2.heap = t.heap := by rw [ht]; rfl
    have go : W p l e R s m args below meth c t.heap (locs ++ locs') (cells + cells') (slots + slots') Q (F0 m (pc + 3) ls restv) := sx_go IH o2 hC ⟨hLc.mono e5 e6, hre.mono e5 e6, hrest' L hr3⟩ hL e5 e6 o1 hQ
    obtain ⟨t3, s3, q3⟩ := go T2 hh2 X2
    exact ⟨t3, hgo _ (hdo1.trans (by rw [ht]; exact s3)), q3⟩
  · rw [if_neg (by omega), if_pos k1] at o2
    obtain ⟨T2, X2, -, -, ht⟩ := X₁.outOf (g := F0 m pc ls restv) rfl hdg e2 e3 e4
    have hh2 : T2.heap = t.heap := by rw [ht]; rfl
    have go : W p l e R s m args below meth c t.heap (locs ++ locs') (cells + cells') (slots + slots') Q (F0 m (pc + 3) ls (x :: restv)) := sx_go IH o2 hC ⟨hLc.mono e5 e6, ⟨hv, hre.mono e5 e6⟩, hrest' L hr3⟩ hL e5 e6 o1 hQ
    obtain ⟨t3, s3, q3⟩ := go T2 hh2 X2
    exact ⟨t3, hgo _ (hdo1.trans (by rw [ht]; exact s3)), q3⟩
  · rw [if_neg (by omega), if_neg (by omega), show kd - 2 = E by omega] at o2
    obtain ⟨T2, X2, -, -, ht⟩ := X₁.outOfThrown (g := F0 m pc ls restv) rfl e2 e3 e4
    have hh2 : T2.heap = t.heap := by rw [ht]; rfl
    have hcls' : s.vm.findClass nm = some cell.cls := by rw [← X₁.warmed.alike.findClass]; exact hcls
    obtain ⟨t3, s3, q3⟩ := sx_back (restv := restv) IH hC (hLc.mono e5 e6) (hrest' L hr3) (hL.mono e5 e6) (fun o ho t ht => hQ o (o1 o ho) t (ht.mono e5 e6)) hM X2 hh2 hE hcell hcls' hcvm o2
    exact ⟨t3, hgo _ (hdo1.trans (by rw [ht]; exact s3)), q3⟩
end SXInv
end
section
/-! sx: calls by the class of the receiver -/
section SXInvV
variable {N : Nat} {ih : sx_ih} {w d mi pc n cs ss : Nat} {lst : List sx_I} {L S : List Nat} {h : sx_H} {sy : sx_Y} {outs : List sx_O}
variable {p : Program} {l : Launch} {e : Env} {R : Room} {s : State} {m : MethodId} {args : Array Value} {below : List Frame} {meth : Method} {c : Code} {D : va_G} {K : ClassId → FieldType → Prop} {b : Nat → Nat} {xs : Nat → Int32} {A : Nat → Prop} {q : sx_M}
variable {ad : List Nat} {rs : List Int32} {ls : Array Slot} {st : List Value} {H : Heap} {locs : List Loc} {cells slots : Nat} {Q : State → Prop}
def sx_vC (k : Nat) : Bool := sx_oa (sx_ml[k]?) (fun t => sx_oa (sx_vt[k]?) (fun l => l.all (fun v =>
  sx_oa (sx_sl[v.2.2.1]?) (fun z => sx_oa (sx_classes[v.1]?) (fun C => decide (z.1 = C.1) && (decide (z.2.1 = t.2.2) && decide (z.2.2 = sx_nam v.2.1)))) && (sx_oa (sx_iml[v.2.2.2.1]?) (fun y => decide (y = sx_nam v.2.1)) &&
  ((if v.2.2.2.2 = 0 then decide (t.2.2 = sx_nam v.2.1) else if v.2.2.2.2 < 1000 then sx_oa (sx_sml[v.2.2.2.2 - 1]?) (fun z => decide (z = (t.2.2.cls, (sx_nam v.2.1).cls, t.2.2.name, t.2.2.desc)) && decide (sx_nam v.2.1 = ⟨(sx_nam v.2.1).cls, t.2.2.name, t.2.2.desc⟩)) else sx_oa (sx_sml[v.2.2.2.2 - 1000]?) (fun z => decide (z = (t.2.2.cls, t.2.2.cls, t.2.2.name, t.2.2.desc)) && (decide (t.2.2 = sx_rl) && decide ((sx_nam v.2.1).desc = t.2.2.desc)))) && (!sx_stl.contains v.2.1 && decide (v.2.1 ≠ 0)))))))
noncomputable def sf_nam (mi : Nat) : MethodName := match sx_nth sx_ms mi with
  | some q => q.1
  | none => ⟨"", "", ""⟩
theorem sf_nam_eq (mi : Nat) : sf_nam mi = sx_nam mi := by
  unfold sf_nam sx_nam
  rw [sx_nth_eq]
  cases sx_ms[mi]? <;> rfl
def sf_S {β γ : Type} (z : String × β) (C : String × γ) : Bool := match z, C with
  | (a, _), (b, _) => decide (a = b)
theorem sf_S_eq {β γ : Type} (z : String × β) (C : String × γ) : sf_S z C = decide (z.1 = C.1) := by
  cases z
  cases C
  rfl
noncomputable def sf_has (l : List Nat) (k : Nat) : Bool := List.rec false (fun a _ ih => cond (Nat.beq a k) true ih) l
theorem sf_has_eq : ∀ (l : List Nat) (k : Nat), sf_has l k = l.contains k
  | [], k => rfl
  | a :: l, k => by
    have e : sf_has (a :: l) k = cond (Nat.beq a k) true (sf_has l k) := rfl
    rw [e, sf_has_eq l k, List.contains_cons]
    by_cases h : k = a
    · subst h
      rw [show Nat.beq k k = true from Nat.beq_refl k, beq_self_eq_true]
      rfl
    · rw [show Nat.beq a k = false from by cases q : Nat.beq a k with | false => rfl | true => exact absurd (Nat.eq_of_beq_eq_true q).symm h, show (k == a) = false from beq_eq_false_iff_ne.mpr h]
      rfl
noncomputable def sf_vC (k : Nat) : Bool := sx_oa (sx_nth sx_ml (k)) (fun t => sx_oa (sx_nth sx_vt (k)) (fun l => l.all (fun v =>
  sx_oa (sx_nth sx_sl (v.2.2.1)) (fun z => sx_oa (sx_nth sx_classes (v.1)) (fun C => sf_S z C && (decide (z.2.1 = t.2.2) && decide (z.2.2 = sf_nam v.2.1)))) && (sx_oa (sx_nth sx_iml (v.2.2.2.1)) (fun y => decide (y = sf_nam v.2.1)) &&
  ((if v.2.2.2.2 = 0 then decide (t.2.2 = sf_nam v.2.1) else if v.2.2.2.2 < 1000 then sx_oa (sx_nth sx_sml (v.2.2.2.2 - 1)) (fun z => decide (z = (t.2.2.cls, (sf_nam v.2.1).cls, t.2.2.name, t.2.2.desc)) && decide (sf_nam v.2.1 = ⟨(sf_nam v.2.1).cls, t.2.2.name, t.2.2.desc⟩)) else sx_oa (sx_nth sx_sml (v.2.2.2.2 - 1000)) (fun z => decide (z = (t.2.2.cls, t.2.2.cls, t.2.2.name, t.2.2.desc)) && (decide (t.2.2 = sx_rl) && decide ((sf_nam v.2.1).desc = t.2.2.desc)))) && (!sf_has sx_stl v.2.1 && decide (v.2.1 ≠ 0)))))))
theorem sf_vC_eq (k : Nat) : sf_vC k = sx_vC k := by
  unfold sf_vC sx_vC
  simp only [sx_nth_eq, sf_nam_eq, sf_S_eq, sf_has_eq]
theorem sx_vC_ok : (List.range 454).all sx_vC = true := by
  rw [show sx_vC = sf_vC from funext fun k => (sf_vC_eq k).symm]
  decide +kernel
theorem sx_ml_len : sx_ml.length = 454 := by decide +kernel
def sx_sC (v : Nat × Nat) : Bool := sx_stl.contains v.1 && (sx_oa (sx_izl[v.2]?) (fun z => decide (z = (sx_nam v.1).cls)) && decide (v.1 ≠ 0))
theorem sx_sC_ok : sx_stat.all sx_sC = true := by decide +kernel
def sx_iC (v : Nat × Nat) : Bool := sx_oa (sx_iml[v.2]?) (fun y => decide (y = sx_nam v.1)) && (!sx_stl.contains v.1 && (decide (v.1 ≠ 0) && (decide ((sx_nam v.1).name = "<init>") && sx_oa (sx_ms[v.1]?) (fun r => decide (r.2.2.2.1 = none) && decide (r.2.2.2.2 = [])))))
theorem sx_iC_ok : sx_init.all sx_iC = true := by decide +kernel
theorem sx_nl_in {k : Nat} {t : String × Nat × MethodName × String} (hT : sx_Tb D K s) (h : sx_nl[k]? = some t) : (Cond.methodLinkNest t.1 t.2.1 t.2.2.1 t.2.2.2).before args s = true := va_Nw.use rfl (hT.2.1 t (List.mem_of_getElem? h))
theorem sx_st_in {mi : Nat} (h : sx_stl.contains mi = true) : Cond.static (sx_nam mi) ∈ sx_wl := sx_ps_in sx_z1010 (List.mem_map.mpr ⟨mi, List.contains_iff_mem.mp h, rfl⟩)
theorem sx_call_pos {av rest : List Nat} {mj : Nat} (hr : sx_call ih d mi (sx_mt mi).1 lst pc L h n sy cs ss av rest mj = some outs) : 0 < (sx_mt mj).1 := by
  cases d with
  | zero => cases hr
  | succ d =>
    have hr : sx_mtK mj (fun cj fj => sx_mtK mi (fun _ f => sx_if (sx_and (sx_and (Nat.blt 0 cj) (Nat.ble (Nat.add (Nat.mul 2 (List.length rest)) (sx_im fj)) 89)) (sx_and (Nat.ble cs 600002) (Nat.ble ss 7302232))) (Option.rec none (fun Lj => Option.rec none (fun outs => sx_cont ih (d + 1) mi (sx_mt mi).1 lst pc L rest (sx_ihd f) outs) (ih d mj cj [] false 0 Lj [] h n sy cs ss)) (sx_xp av (sx_im fj))) none)) = some outs := hr
    rw [sx_mtK_eq, sx_mtK_eq] at hr
    obtain ⟨hc, -⟩ := sx_if_ok hr
    exact sx_blt (sx_and_ok (sx_and_ok hc).1).1
theorem sx_iml_nn0 : sx_iml.all (fun y => decide (y ≠ ⟨"", "", ""⟩)) = true := by decide +kernel
theorem sx_iml_nn {k : Nat} {y : MethodName} (h : sx_iml[k]? = some y) : y ≠ ⟨"", "", ""⟩ := of_decide_eq_true (List.all_eq_true.mp sx_iml_nn0 y (List.mem_of_getElem? h))
theorem sx_sInvV (IH : sx_Ok N ih) (hC : sx_Cx p e R s m meth c D K b N xs A mi d q) (hA : sx_At R s c D K b N xs A ad rs cells slots locs L S h n sy cs ss ls st H) (hL : sx_Ls p l e R s m args below meth c D K b N xs A Q ad rs lst) (hQ : ∀ o ∈ outs, ∀ t, sx_En R s below D K b A ad rs o t → Q t)
    (hMO : sx_MO) (hM : sx_Mok mi q) (hk : sx_k21 q pc w = true) (hr : sx_oInv ih w d mi (sx_mt mi).1 lst pc L S h n sy cs ss true = some outs) : W p l e R s m args below meth c H locs cells slots Q (F0 m pc ls st) := by
  obtain ⟨-, hx, -, hb, hml, -, -, -, hown, -, hT, -⟩ := id hC
  obtain ⟨hLc, hSt, hrest⟩ := id hA
  unfold sx_oInv at hr
  rw [sx_fo_eq, sx_mtK_eq] at hr
  obtain ⟨av, rest, avs', restv, hr, hav, hre, rfl, hl1, hl2⟩ := sx_tk_ok hr hSt (show sx_St b ad rs [] [] from trivial)
  rw [List.append_nil] at hav
  cases av with
  | nil => cases hr
  | cons o at' =>
  obtain ⟨xo, argsL, hrv, ho, hat⟩ := hav.cons
  have hr : sx_if (sx_and (Nat.beq (sx_tg o) 2) (Nat.blt (sx_pl o) n)) (sx_rdK h (sx_pl o) (fun hd _ => sx_if (Nat.beq (Nat.mod (Nat.shiftRight (sx_wb w) (Nat.mod hd 256)) 2) 1) (sx_call ih d mi (sx_mt mi).1 lst pc L h n sy cs ss (o :: at') rest (sx_wc w)) none)) none = some outs := hr
  obtain ⟨hc, hr⟩ := sx_if_ok hr
  obtain ⟨c1, -⟩ := sx_and_ok hc
  rw [sx_rdK_eq] at hr
  obtain ⟨c2, hr⟩ := sx_if_ok hr
  have c2 : (sx_wb w >>> ((sx_rd h (o / 8)).1 % 256)) % 2 = 1 := sx_beq c2
  obtain ⟨a, ha, rfl⟩ := ho.t2 (sx_beq c1)
  unfold sx_k21 at hk
  obtain ⟨t, ht, hk⟩ := sx_oa_ok hk
  simp only [Bool.and_eq_true, decide_eq_true_eq] at hk
  obtain ⟨hcls, hd, hwb, hk⟩ := hk
  have hci : (sx_rd h (o / 8)).1 % 256 < 12 := by
    rcases Nat.lt_or_ge ((sx_rd h (o / 8)).1 % 256) 12 with z | z
    · exact z
    · have : sx_wb w < 2 ^ ((sx_rd h (o / 8)).1 % 256) := Nat.lt_of_lt_of_le hwb (show (2:Nat)^12 ≤ 2 ^ ((sx_rd h (o / 8)).1 % 256) from Nat.pow_le_pow_right (by decide) z)
      rw [Nat.shiftRight_eq_div_pow, Nat.div_eq_of_lt this] at c2
      omega
  have hk1 := List.all_eq_true.mp hk _ (List.mem_range.mpr hci)
  rw [if_pos c2] at hk1
  obtain ⟨vl, hvl, hk1⟩ := sx_oa_ok hk1
  obtain ⟨v, hv, hk1⟩ := List.any_eq_true.mp hk1
  simp only [Bool.and_eq_true, decide_eq_true_eq] at hk1
  obtain ⟨v1, v2⟩ := hk1
  have hkl : sx_wa w < 454 := by rw [← sx_ml_len]; exact (List.getElem?_eq_some_iff.mp ht).1
  have hvC := List.all_eq_true.mp sx_vC_ok _ (List.mem_range.mpr hkl)
  unfold sx_vC at hvC
  obtain ⟨t', ht', hvC⟩ := sx_oa_ok hvC
  cases ht.symm.trans ht'
  obtain ⟨vl', hvl', hvC⟩ := sx_oa_ok hvC
  cases hvl.symm.trans hvl'
  have hvC := List.all_eq_true.mp hvC v hv
  simp only [Bool.and_eq_true, decide_eq_true_eq] at hvC
  obtain ⟨w1, w2, w3, w4, w5⟩ := hvC
  obtain ⟨z, hz, w1⟩ := sx_oa_ok w1
  obtain ⟨C, hC1, w1⟩ := sx_oa_ok w1
  simp only [Bool.and_eq_true, decide_eq_true_eq] at w1
  obtain ⟨z1, z2, z3⟩ := w1
  obtain ⟨yy, hyy, w2⟩ := sx_oa_ok w2
  have w2 : yy = sx_nam v.2.1 := of_decide_eq_true w2
  rw [v2] at z3 w2 w3 w4 w5
  rw [v1] at hC1
  obtain ⟨r, hmr⟩ : ∃ r, sx_ms[sx_wc w]? = some r := by
    cases hx0 : sx_ms[sx_wc w]? with
    | some r => exact ⟨r, rfl⟩
    | none =>
      exfalso
      have hb := sx_iml_nn hyy
      rw [w2] at hb
      unfold sx_nam at hb
      rw [hx0] at hb
      exact hb rfl
  have hnam := sx_nam_eq hmr
  rw [hnam] at z3 w2 w3
  have hsel := hT.1 args _ (sx_sl_in hz)
  rw [z1, z2, z3] at hsel
  have hinst := hT.1 args _ (sx_iml_in hyy)
  rw [w2] at hinst
  obtain ⟨hY, hG, hS, hxs, hr1, hr2, hr3⟩ := id hrest
  obtain ⟨ws, ee, hP, hD, g3, g4, g5, g6, he, hE⟩ := hG.at ha
  have hE1 : ∃ fs, ee = .inr ((sx_rd h (o / 8)).1 % 256, fs) := by
    rcases hE with ⟨ci, fs, rfl, e2, -⟩ | ⟨cA, f, -, e2, -⟩ | ⟨cA, f, -, e2, -⟩ | ⟨cA, f, -, e2, -⟩
    · exact ⟨fs, by rw [e2]⟩
    · omega
    · omega
    · omega
  obtain ⟨fs, rfl⟩ := hE1
  obtain ⟨cellB, hcB, hoB, hclB⟩ := va_recv hT.2.2.2.2.2.1 hP (ci := (sx_rd h (o / 8)).1 % 256) (q0 := o / 8) hC1 he
  refine sx_inv IH hC hA hL hQ hMO hM hr (avs := .ref a :: argsL) (by rw [← hrv]; exact hav) hre hmr w5 (fun T hTH X => ?_)
  have hcj : 0 < (sx_mt (sx_wc w)).1 := sx_call_pos hr
  have hMj := hMO _ r hmr hcj
  have hnB := (hMj.2.2.2.2.2 w5).1
  unfold sx_nB at hnB
  rw [if_neg (by rw [Bool.not_eq_true]; simpa using w4)] at hnB
  have hnB := of_decide_eq_true hnB
  have hlenA : argsL.length + 1 = sx_ia (sx_mt (sx_wc w)).2 := by
    have h1 : avs'.reverse.length = argsL.length + 1 := by rw [hrv]; rfl
    rw [List.length_reverse] at h1
    omega
  have hlen : ∀ sig, parseMethodDescriptor r.1.desc = some sig → argsL.length = sig.parameters.length := by
    intro sig hs
    rw [hs] at hnB
    have : sig.parameters.length + 1 = sx_ia (sx_mt (sx_wc w)).2 := Option.some.inj hnB
    omega
  have hstack : (F0 m pc ls (avs' ++ restv)).stack = argsL.reverse ++ .ref a :: restv := by
    show avs' ++ restv = _
    have : avs' = argsL.reverse ++ [.ref a] := by rw [← List.reverse_reverse avs', hrv, List.reverse_cons]
    rw [this, List.append_assoc]
    rfl
  have hlink : (Cond.methodLink q.1.cls t.2.1 t.2.2).before args s = true := by rw [← hcls]; exact hT.1 args _ (sx_ml_in ht)
  obtain ⟨mk, methM, hnamed, hmethM, hstM, habM⟩ := Cond.instanceMethod_spec hinst
  obtain ⟨mk', methk, ck, n1, n2, -, -, -, -, -, -, hsigM, -⟩ := sx_meth hT w5 hMj
  cases hnamed.symm.trans n1
  cases hmethM.symm.trans n2
  obtain ⟨c2', r2, m2, q1, q2, q3, q4, kP, hkP, hkPi⟩ := Cond.selects_spec hsel
  cases hclB.symm.trans q1
  cases hnamed.symm.trans q3
  have hcT : T.heap[a]? = some cellB := by rw [hTH]; exact hcB
  have hne : ∀ z, cellB.vm ≠ .statics z := fun z hz => by rw [hz] at hoB; cases hoB
  by_cases hv0 : v.2.2.2.2 = 0
  · rw [if_pos hv0] at w3
    have w3 : t.2.2 = r.1 := of_decide_eq_true w3
    rw [w3] at hlink q2
    cases (State.methodFound?_of_named hnamed hMj.2.2.2.1).symm.trans q2
    have hselP : selectMethod e.platform s.vm cellB.cls mk = .method mk := by rw [Launch.admits_selectMethod X.admits]; exact q4
    obtain ⟨vm₁, X₁, hstep₁⟩ := X.invokevirtual hx hown hlink hnamed hmethM hstM hkP hkPi hMj.2.2.2.1 hcT hne hselP hmethM habM hkP hkPi (g := F0 m pc ls (avs' ++ restv)) rfl (argsL := argsL) (rest := restv) (hlen _ hsigM) hstack (by rw [hb]; exact sx_dc_ok hd)
    exact ⟨vm₁, mk, _, X₁, hnamed, by rw [hb]; exact sx_dc_ok hd, fun target ht => hstep₁ _ fun acts => by rw [doInvoke_state]; exact ht⟩
  by_cases hv1 : v.2.2.2.2 < 1000
  · rw [if_neg hv0, if_pos hv1] at w3
    obtain ⟨zz, hzz, w3⟩ := sx_oa_ok w3
    simp only [Bool.and_eq_true, decide_eq_true_eq] at w3
    obtain ⟨y1, y2⟩ := w3
    have hsame := hT.1 args _ (sx_sml_in hzz)
    rw [y1] at hsame
    dsimp only at hsame
    obtain ⟨cn, ckk, rr, hcn, hck, hni, hf, hn1⟩ := Cond.sameMethod_found hsame
    rw [← y2] at hn1
    cases hnamed.symm.trans hn1
    cases hf.symm.trans q2
    have hselP : selectMethod e.platform s.vm cellB.cls mk = .method mk := by rw [Launch.admits_selectMethod X.admits]; exact q4
    obtain ⟨vm₁, X₁, hstep₁⟩ := X.invokevirtualUp hx hown hlink hsame hMj.2.2.2.1 (by rw [← y2]; exact hnamed) hmethM hstM hcT hne hselP hmethM habM hkP hkPi (g := F0 m pc ls (avs' ++ restv)) rfl (argsL := argsL) (rest := restv) (hlen _ hsigM) hstack (by rw [hb]; exact sx_dc_ok hd)
    exact ⟨vm₁, mk, _, X₁, hnamed, by rw [hb]; exact sx_dc_ok hd, fun target ht => hstep₁ _ fun acts => by rw [doInvoke_state]; exact ht⟩
  · rw [if_neg hv0, if_neg hv1] at w3
    obtain ⟨zz, hzz, w3⟩ := sx_oa_ok w3
    simp only [Bool.and_eq_true, decide_eq_true_eq] at w3
    obtain ⟨y1, y2, y3⟩ := w3
    have hsame := hT.1 args _ (sx_sml_in hzz)
    rw [y1] at hsame
    dsimp only at hsame
    obtain ⟨-, -, -, -, -, -, -, -, -, -, -, hSx, -⟩ := id hC
    obtain ⟨r0, rd, d1, d2, d3, d4⟩ := Cond.declares_spec (va_Nw.use (A := args) rfl hSx.2.2.2.2.2.2)
    obtain ⟨cn, ckk, rr, hcn, hck, hni, hf, hn1⟩ := Cond.sameMethod_found hsame
    have hd1 : s.methodNamed? ⟨t.2.2.cls, t.2.2.name, t.2.2.desc⟩ = some r0 := by rw [y2]; exact d1
    cases hd1.symm.trans hn1
    cases hf.symm.trans q2
    have hselP : selectMethod e.platform s.vm cellB.cls r2 = .method mk := by rw [Launch.admits_selectMethod X.admits]; exact q4
    have hlenD : argsL.length = rd.sig.parameters.length := hlen _ (by rw [y3, y2]; exact d4)
    obtain ⟨vm₁, X₁, hstep₁⟩ := X.invokevirtualUp hx hown hlink hsame (by rw [y2]; decide) hd1 d2 d3 hcT hne hselP hmethM habM hkP hkPi (g := F0 m pc ls (avs' ++ restv)) rfl (argsL := argsL) (rest := restv) hlenD hstack (by rw [hb]; exact sx_dc_ok hd)
    exact ⟨vm₁, mk, _, X₁, hnamed, by rw [hb]; exact sx_dc_ok hd, fun target ht => hstep₁ _ fun acts => by rw [doInvoke_state]; exact ht⟩
end SXInvV
end
section
/-! sx: calls of static methods and of constructors, switches -/
section SXInvS
variable {N : Nat} {ih : sx_ih} {w d mi pc n cs ss : Nat} {lst : List sx_I} {L S : List Nat} {h : sx_H} {sy : sx_Y} {outs : List sx_O}
variable {p : Program} {l : Launch} {e : Env} {R : Room} {s : State} {m : MethodId} {args : Array Value} {below : List Frame} {meth : Method} {c : Code} {D : va_G} {K : ClassId → FieldType → Prop} {b : Nat → Nat} {xs : Nat → Int32} {A : Nat → Prop} {q : sx_M}
variable {ad : List Nat} {rs : List Int32} {ls : Array Slot} {st : List Value} {H : Heap} {locs : List Loc} {cells slots : Nat} {Q : State → Prop}
theorem sx_sInvS (IH : sx_Ok N ih) (hC : sx_Cx p e R s m meth c D K b N xs A mi d q) (hA : sx_At R s c D K b N xs A ad rs cells slots locs L S h n sy cs ss ls st H) (hL : sx_Ls p l e R s m args below meth c D K b N xs A Q ad rs lst) (hQ : ∀ o ∈ outs, ∀ t, sx_En R s below D K b A ad rs o t → Q t)
    (hMO : sx_MO) (hM : sx_Mok mi q) (hk : sx_k22 q pc w = true) (hr : sx_oInv ih w d mi (sx_mt mi).1 lst pc L S h n sy cs ss false = some outs) : W p l e R s m args below meth c H locs cells slots Q (F0 m pc ls st) := by
  obtain ⟨-, hx, -, hb, hml, -, -, -, hown, -, hT, -⟩ := id hC
  obtain ⟨hLc, hSt, hrest⟩ := id hA
  unfold sx_oInv at hr
  rw [sx_fo_eq, sx_mtK_eq] at hr
  obtain ⟨av, rest, avs', restv, hr, hav, hre, rfl, hl1, hl2⟩ := sx_tk_ok hr hSt (show sx_St b ad rs [] [] from trivial)
  rw [List.append_nil] at hav
  have hr : sx_call ih d mi (sx_mt mi).1 lst pc L h n sy cs ss av rest (sx_wc w) = some outs := hr
  unfold sx_k22 at hk
  rw [Bool.and_eq_true] at hk
  obtain ⟨hk1, hk⟩ := hk
  obtain ⟨r, hmr, hk⟩ := sx_oa_ok hk
  obtain ⟨v, hv, hk1⟩ := List.any_eq_true.mp hk1
  have hk1 : v.1 = sx_wc w := of_decide_eq_true hk1
  have hvC := List.all_eq_true.mp sx_sC_ok v hv
  unfold sx_sC at hvC
  simp only [Bool.and_eq_true, decide_eq_true_eq] at hvC
  obtain ⟨v1, v2, w5⟩ := hvC
  rw [hk1] at v1 v2 w5
  have hnam := sx_nam_eq hmr
  obtain ⟨yy, hyy, v2⟩ := sx_oa_ok v2
  have v2 : yy = (sx_nam (sx_wc w)).cls := of_decide_eq_true v2
  rw [hnam] at v2
  refine sx_inv IH hC hA hL hQ hMO hM hr (avs := avs'.reverse) hav hre hmr w5 (fun T hTH X => ?_)
  have hcj : 0 < (sx_mt (sx_wc w)).1 := sx_call_pos hr
  have hMj := hMO _ r hmr hcj
  have hnB := (hMj.2.2.2.2.2 w5).1
  unfold sx_nB at hnB
  rw [if_pos v1] at hnB
  have hnB := of_decide_eq_true hnB
  have hlen : ∀ sig, parseMethodDescriptor r.1.desc = some sig → avs'.reverse.length = sig.parameters.length := by
    intro sig hs
    rw [hs] at hnB
    have : sig.parameters.length = sx_ia (sx_mt (sx_wc w)).2 := Option.some.inj hnB
    rw [List.length_reverse]
    omega
  have hstack : (F0 m pc ls (avs' ++ restv)).stack = avs'.reverse.reverse ++ restv := by rw [List.reverse_reverse]
  obtain ⟨mk, methk, ck, n1, n2, -, -, -, -, -, -, hsigM, -⟩ := sx_meth hT w5 hMj
  have hstat : (Cond.static r.1).before args s = true := by rw [← hnam]; exact hT.1 args _ (sx_st_in v1)
  have hstatic : methk.isStatic = true := Cond.static_spec n1 n2 hstat
  obtain ⟨kP, hkP, -⟩ := className_of_methodNamed n1
  have hinitP : kP.init = .initialized := Cond.initialized_spec (findClass_of_methodNamed n1) hkP (by rw [← v2]; exact hT.1 args _ (sx_izl_in (List.mem_of_getElem? hyy)))
  by_cases hw0 : sx_wb w = 0
  · rw [if_pos hw0] at hk
    obtain ⟨t, ht, hk⟩ := sx_oa_ok hk
    simp only [Bool.and_eq_true, decide_eq_true_eq] at hk
    obtain ⟨hcls, hd, hty⟩ := hk
    have hlink : (Cond.methodLink q.1.cls t.2.1 r.1).before args s = true := by rw [← hcls, ← hty]; exact hT.1 args _ (sx_ml_in ht)
    obtain ⟨vm₁, X₁, hstep₁⟩ := X.invokestatic hx hown hlink n1 n2 hstatic hkP hinitP hMj.2.2.2.1 (g := F0 m pc ls (avs' ++ restv)) rfl (argsL := avs'.reverse) (rest := restv) (hlen _ hsigM) hstack (by rw [hb]; exact sx_dc_ok hd)
    exact ⟨vm₁, mk, _, X₁, n1, by rw [hb]; exact sx_dc_ok hd, fun target ht => hstep₁ _ fun acts => by rw [doInvoke_state]; exact ht⟩
  · rw [if_neg hw0] at hk
    obtain ⟨t, ht, hk⟩ := sx_oa_ok hk
    simp only [Bool.and_eq_true, decide_eq_true_eq] at hk
    obtain ⟨hcls, hd, hty⟩ := hk
    have hlink : (Cond.methodLinkNest q.1.cls t.2.1 r.1 t.2.2.2).before args s = true := by rw [← hcls, ← hty]; exact sx_nl_in hT ht
    obtain ⟨vm₁, X₁, hstep₁⟩ := X.invokestaticNest hx hown hlink n1 n2 hstatic hkP hinitP hMj.2.2.2.1 (g := F0 m pc ls (avs' ++ restv)) rfl (argsL := avs'.reverse) (rest := restv) (hlen _ hsigM) hstack (by rw [hb]; exact sx_dc_ok hd)
    exact ⟨vm₁, mk, _, X₁, n1, by rw [hb]; exact sx_dc_ok hd, fun target ht => hstep₁ _ fun acts => by rw [doInvoke_state]; exact ht⟩
theorem sx_sInvI (IH : sx_Ok N ih) (hC : sx_Cx p e R s m meth c D K b N xs A mi d q) (hA : sx_At R s c D K b N xs A ad rs cells slots locs L S h n sy cs ss ls st H) (hL : sx_Ls p l e R s m args below meth c D K b N xs A Q ad rs lst) (hQ : ∀ o ∈ outs, ∀ t, sx_En R s below D K b A ad rs o t → Q t)
    (hMO : sx_MO) (hM : sx_Mok mi q) (hk : sx_k23 q pc w = true) (hr : sx_oInvI ih w d mi (sx_mt mi).1 lst pc L S h n sy cs ss = some outs) : W p l e R s m args below meth c H locs cells slots Q (F0 m pc ls st) := by
  obtain ⟨-, hx, -, hb, hml, -, -, -, hown, -, hT, -⟩ := id hC
  obtain ⟨hLc, hSt, hrest⟩ := id hA
  unfold sx_oInvI at hr
  rw [sx_fo_eq, sx_mtK_eq] at hr
  obtain ⟨av, rest, avs', restv, hr, hav, hre, rfl, hl1, hl2⟩ := sx_tk_ok hr hSt (show sx_St b ad rs [] [] from trivial)
  rw [List.append_nil] at hav
  cases av with
  | nil => cases hr
  | cons o at' =>
  obtain ⟨xo, argsL, hrv, ho, hat⟩ := hav.cons
  have hr : sx_if (sx_and (Nat.beq (sx_tg o) 2) (Nat.blt (sx_pl o) n)) (sx_call ih d mi (sx_mt mi).1 lst pc L h n sy cs ss (o :: at') rest (sx_wc w)) none = some outs := hr
  obtain ⟨hc, hr⟩ := sx_if_ok hr
  obtain ⟨c1, -⟩ := sx_and_ok hc
  obtain ⟨a, ha, rfl⟩ := ho.t2 (sx_beq c1)
  unfold sx_k23 at hk
  rw [Bool.and_eq_true] at hk
  obtain ⟨hk1, hk⟩ := hk
  obtain ⟨r, hmr, hk⟩ := sx_oa_ok hk
  obtain ⟨v, hv, hk1⟩ := List.any_eq_true.mp hk1
  have hk1 : v.1 = sx_wc w := of_decide_eq_true hk1
  have hvC := List.all_eq_true.mp sx_iC_ok v hv
  unfold sx_iC at hvC
  simp only [Bool.and_eq_true, decide_eq_true_eq] at hvC
  obtain ⟨v1, v2, w5, v3, v4⟩ := hvC
  rw [hk1] at v1 v2 w5 v3 v4
  obtain ⟨r', hmr', v4⟩ := sx_oa_ok v4
  cases hmr.symm.trans hmr'
  simp only [Bool.and_eq_true, decide_eq_true_eq] at v4
  obtain ⟨hret, hnoh⟩ := v4
  have hnam := sx_nam_eq hmr
  obtain ⟨yy, hyy, v1⟩ := sx_oa_ok v1
  have v1 : yy = sx_nam (sx_wc w) := of_decide_eq_true v1
  rw [hnam] at v1 v3
  have hinst : (Cond.instanceMethod r.1).before args s = true := by rw [← v1]; exact hT.1 args _ (sx_iml_in hyy)
  refine sx_inv IH hC hA hL hQ hMO hM hr (avs := .ref a :: argsL) (by rw [← hrv]; exact hav) hre hmr w5 (fun T hTH X => ?_)
  have hcj : 0 < (sx_mt (sx_wc w)).1 := sx_call_pos hr
  have hMj := hMO _ r hmr hcj
  have hnB := (hMj.2.2.2.2.2 w5).1
  unfold sx_nB at hnB
  rw [if_neg (by rw [Bool.not_eq_true]; simpa using v2)] at hnB
  have hnB := of_decide_eq_true hnB
  have hlenA : argsL.length + 1 = sx_ia (sx_mt (sx_wc w)).2 := by
    have h1 : avs'.reverse.length = argsL.length + 1 := by rw [hrv]; rfl
    rw [List.length_reverse] at h1
    omega
  have hlen : ∀ sig, parseMethodDescriptor r.1.desc = some sig → argsL.length = sig.parameters.length := by
    intro sig hs
    rw [hs] at hnB
    have : sig.parameters.length + 1 = sx_ia (sx_mt (sx_wc w)).2 := Option.some.inj hnB
    omega
  have hstack : (F0 m pc ls (avs' ++ restv)).stack = argsL.reverse ++ .ref a :: restv := by
    show avs' ++ restv = _
    have : avs' = argsL.reverse ++ [.ref a] := by rw [← List.reverse_reverse avs', hrv, List.reverse_cons]
    rw [this, List.append_assoc]
    rfl
  have hcode : (Cond.code r.1 r.2.1 r.2.2.1 none).before args s = true := by rw [← hret]; exact hT.1 args _ ((hMj.2.2.2.2.2 w5).2.1 hnoh)
  have hpl : e.platform.magicAccessors = ({} : Platform).magicAccessors := by rw [X.admits.platform]
  by_cases hw0 : sx_wb w = 0
  · rw [if_pos hw0] at hk
    obtain ⟨t, ht, hk⟩ := sx_oa_ok hk
    simp only [Bool.and_eq_true, decide_eq_true_eq] at hk
    obtain ⟨hcls, hd, hty⟩ := hk
    have hlink : (Cond.methodLink q.1.cls t.2.1 r.1).before args s = true := by rw [← hcls, ← hty]; exact hT.1 args _ (sx_ml_in ht)
    obtain ⟨mk, methM, cM, kP, vm₁, hnamed, hmethM, hcodeM, -, hlocalsM, -, hkP, -, hW₁, hstep₁⟩ := Steps.initColdArgs (e := e) X.here hx X.warmed hpl hown v3 hMj.2.2.2.1 hlink hinst hcode (f := F0 m pc ls (avs' ++ restv)) rfl hlen hstack (by rw [hb]; exact sx_dc_ok hd)
    exact ⟨vm₁, mk, _, X.noted hW₁, hnamed, by rw [hb]; exact sx_dc_ok hd, fun target ht => hstep₁ _ fun acts => by rw [doInvoke_state]; exact ht⟩
  · rw [if_neg hw0] at hk
    obtain ⟨t, ht, hk⟩ := sx_oa_ok hk
    simp only [Bool.and_eq_true, decide_eq_true_eq] at hk
    obtain ⟨hcls, hd, hty⟩ := hk
    have hlink : (Cond.methodLinkNest q.1.cls t.2.1 r.1 t.2.2.2).before args s = true := by rw [← hcls, ← hty]; exact sx_nl_in hT ht
    obtain ⟨mk, methM, cM, kP, vm₁, hnamed, hmethM, hcodeM, -, hlocalsM, -, hkP, -, hW₁, hstep₁⟩ := Steps.initColdArgsNest (e := e) X.here hx X.warmed hpl hown v3 hMj.2.2.2.1 hlink hinst hcode (f := F0 m pc ls (avs' ++ restv)) rfl hlen hstack (by rw [hb]; exact sx_dc_ok hd)
    exact ⟨vm₁, mk, _, X.noted hW₁, hnamed, by rw [hb]; exact sx_dc_ok hd, fun target ht => hstep₁ _ fun acts => by rw [doInvoke_state]; exact ht⟩
theorem sx_sw1 (hx : p.tables.exec = Jvm.exec) (hb : c.code = q.2.1) (hk : sx_k37 q pc w = true) {t : Nat × Nat × List Nat × Nat} (ht : sx_tsw[sx_wa w]? = some t) {z : Int32} {rest : List Value} (go : W p l e R s m args below meth c H locs cells slots Q (F0 m (sx_tg1 t (sx_b z)) ls rest)) : W p l e R s m args below meth c H locs cells slots Q (F0 m pc ls (.int z :: rest)) := by
  unfold sx_k37 at hk
  obtain ⟨t', ht', hk⟩ := sx_oa_ok hk
  cases ht.symm.trans ht'
  simp only [Bool.and_eq_true, decide_eq_true_eq] at hk
  obtain ⟨k1, k2, k3, k4, hd⟩ := hk
  have hd := sx_dc_ok hd
  have hz := sx_b_int z
  unfold sx_tg1 at go
  rw [sx_nth_eq] at go
  have tof : ∀ x : Nat, (pc : Int) + sx_of pc x = (x : Int) := fun x => by unfold sx_of; omega
  by_cases hlo : t.2.1 ≤ sx_b z
  · rw [Nat.ble_eq_true_of_le hlo, sx_if_t] at go
    by_cases hhi : sx_b z - t.2.1 < t.2.2.1.length
    · rw [show Nat.sub (sx_b z) t.2.1 = sx_b z - t.2.1 from rfl, List.getElem?_eq_getElem hhi] at go
      refine lv_tableIn hx hb hd (off := sx_of pc t.2.2.1[sx_b z - t.2.1]) (by omega) (by omega) ?_ (tof _) go
      rw [show (z.toInt - ((t.2.1 : Int) - 2147483648)).toNat = sx_b z - t.2.1 by omega]
      simp [List.getElem?_eq_getElem hhi]
    · rw [show Nat.sub (sx_b z) t.2.1 = sx_b z - t.2.1 from rfl, List.getElem?_eq_none (by omega)] at go
      exact lv_tableOut hx hb hd (Or.inr (by omega)) (tof _) go
  · rw [sx_ble_e hlo, sx_if_f] at go
    exact lv_tableOut hx hb hd (Or.inl (by omega)) (tof _) go
theorem sx_tg1_lo {t : Nat × Nat × List Nat × Nat} {z : Nat} (h : z < t.2.1) : sx_tg1 t z = t.1 := by
  unfold sx_tg1
  rw [sx_ble_e (by omega), sx_if_f]
theorem sx_tg1_hi {t : Nat × Nat × List Nat × Nat} {z : Nat} (h : t.2.1 + t.2.2.1.length ≤ z) : sx_tg1 t z = t.1 := by
  unfold sx_tg1
  rw [Nat.ble_eq_true_of_le (by omega), sx_if_t, sx_nth_eq, show Nat.sub z t.2.1 = z - t.2.1 from rfl, List.getElem?_eq_none (by omega)]
theorem sx_sSw (IH : sx_Ok N ih) (hC : sx_Cx p e R s m meth c D K b N xs A mi d q) (hA : sx_At R s c D K b N xs A ad rs cells slots locs L S h n sy cs ss ls st H) (hL : sx_Ls p l e R s m args below meth c D K b N xs A Q ad rs lst) (hQ : ∀ o ∈ outs, ∀ t, sx_En R s below D K b A ad rs o t → Q t)
    (hk : sx_k37 q pc w = true) (hr : sx_oSw ih w d mi (sx_mt mi).1 lst L S h n sy cs ss = some outs) : W p l e R s m args below meth c H locs cells slots Q (F0 m pc ls st) := by
  obtain ⟨-, hx, -, hb, hml, -, -, -, hown, -, hT, -⟩ := id hC
  obtain ⟨hLc, hSt, hrest⟩ := id hA
  unfold sx_oSw at hr
  cases S with
  | nil => cases hr
  | cons v r =>
  obtain ⟨vx, st2, rfl, hvx, hSt2⟩ := hSt.cons
  obtain ⟨t, ht, hr⟩ := sx_opt_ok hr
  rw [sx_nth_eq] at ht
  obtain ⟨hY, hG, hS, hxs, hrm⟩ := id hrest
  obtain ⟨v', hr, hvx, -⟩ := sx_nm_ok hr hY hvx
  cases h0 : Nat.beq (sx_tg v') 0 with
  | true =>
    rw [h0, sx_if_t, sx_fo_eq] at hr
    have e := hvx.t0 (sx_beq h0)
    subst e
    refine sx_sw1 hx hb hk ht ?_
    rw [sx_b_ofNat]
    exact sx_go IH hr hC ⟨hLc, hSt2, hrest⟩ hL List.prefix_rfl List.prefix_rfl (fun _ h => h) hQ
  | false =>
    rw [h0, sx_if_f] at hr
    obtain ⟨h1, hr⟩ := sx_if_ok hr
    obtain ⟨z, hz, rfl⟩ := hvx.t1 (sx_beq h1)
    refine sx_sw1 hx hb hk ht ?_
    obtain ⟨en, hen, hr⟩ := sx_opt_ok hr
    rw [sx_nth_eq] at hen
    obtain ⟨o1, o2, a1, a2, rfl⟩ := sx_app_ok hr
    obtain ⟨o3, o4, b1, b2, rfl⟩ := sx_app_ok a2
    obtain ⟨e1, e2, -⟩ := hY.2 _ _ _ hz hen
    rcases Nat.lt_or_ge (sx_b z) t.2.1 with q1 | q1
    · cases hq0 : Nat.beq t.2.1 0 with
      | true => have := sx_beq hq0; omega
      | false =>
        rw [hq0, sx_if_f, sx_mn_eq] at a1
        obtain ⟨sy', k1, k2, -, -, -⟩ := sx_rf_ok a1 hY hz e1 (by show _ ≤ min en.2.1 (t.2.1 - 1); omega)
        rw [sx_tg1_lo q1]
        exact sx_go IH k1 hC ⟨hLc, hSt2, k2, hG, hS, hxs, hrm⟩ hL List.prefix_rfl List.prefix_rfl (fun o ho => List.mem_append_left _ ho) hQ
    · rcases Nat.lt_or_ge (sx_b z) (t.2.1 + t.2.2.1.length) with q2 | q2
      · simp only [sx_fo_eq, sx_mn_eq, sx_mx_eq] at b2
        obtain ⟨sy', outs', k1, k2, k3, k4, ⟨p0, o0, k5⟩, -⟩ := sx_en_ok b2 hY hz (by omega) (by show _ ≤ min en.2.1 (t.2.1 + t.2.2.1.length - 1); omega)
        rw [sx_nth_eq, k5] at k1
        exact sx_go IH k1 hC ⟨hLc, hSt2, k3, hG, hS, hxs, hrm⟩ hL List.prefix_rfl List.prefix_rfl (fun o ho => List.mem_append_right _ (List.mem_append_right _ (k2 o ho))) hQ
      · rw [sx_mx_eq] at b1
        obtain ⟨sy', k1, k2, -, -, -⟩ := sx_rf_ok b1 hY hz (by show max en.1 (t.2.1 + t.2.2.1.length) ≤ _; omega) e2
        rw [sx_tg1_hi q2]
        exact sx_go IH k1 hC ⟨hLc, hSt2, k2, hG, hS, hxs, hrm⟩ hL List.prefix_rfl List.prefix_rfl (fun o ho => List.mem_append_right _ (List.mem_append_left _ ho)) hQ
end SXInvS
end
section
/-! sx: Strings, statics, bytes, a call of two targets -/
section SXNops
variable {N : Nat} {ih : sx_ih} {w d mi pc n cs ss : Nat} {lst : List sx_I} {L S : List Nat} {h : sx_H} {sy : sx_Y} {outs : List sx_O}
variable {p : Program} {l : Launch} {e : Env} {R : Room} {s : State} {m : MethodId} {args : Array Value} {below : List Frame} {meth : Method} {c : Code} {D : va_G} {K : ClassId → FieldType → Prop} {b : Nat → Nat} {xs : Nat → Int32} {A : Nat → Prop} {q : sx_M}
variable {ad : List Nat} {rs : List Int32} {ls : Array Slot} {st : List Value} {H : Heap} {locs : List Loc} {cells slots : Nat} {Q : State → Prop}
theorem sx_V_k (k : Nat) : sx_V b ad rs (Nat.add (Nat.mul 8 k) 5) (.ref (b k)) := by
  have e : Nat.add (Nat.mul 8 k) 5 = 8 * k + 5 := rfl
  rw [e]
  exact Or.inr (Or.inr (Or.inr (Or.inr (Or.inr (Or.inl ⟨by omega, by rw [show (8 * k + 5) / 8 = k by omega]⟩)))))
theorem sx_V_n (k : Nat) : sx_V b ad rs (Nat.mul 8 k) (.int (Int32.ofNat k)) := Or.inl ⟨Nat.mul_mod_right 8 _, by rw [show Nat.mul 8 k / 8 = k from Nat.mul_div_cancel_left _ (by decide)]⟩
theorem sx_sr_len : sx_sr.length = sx_ns ∧ sx_sb.length = sx_ns := by decide +kernel
theorem sx_sb_ok : sx_sb.all (fun t => decide (t.length ≤ 5000)) = true := by decide +kernel
theorem sx_sLdcS (IH : sx_Ok N ih) (hC : sx_Cx p e R s m meth c D K b N xs A mi d q) (hA : sx_At R s c D K b N xs A ad rs cells slots locs L S h n sy cs ss ls st H) (hL : sx_Ls p l e R s m args below meth c D K b N xs A Q ad rs lst) (hQ : ∀ o ∈ outs, ∀ t, sx_En R s below D K b A ad rs o t → Q t)
    (hk : sx_k33 q pc w = true) (hr : sx_oLdcS ih w d mi (sx_mt mi).1 lst pc L S h n sy cs ss = some outs) : W p l e R s m args below meth c H locs cells slots Q (F0 m pc ls st) := by
  obtain ⟨-, hx, -, hb, hml, -, -, -, hown, -, hT, hSx, -⟩ := id hC
  obtain ⟨hLc, hSt, hrest⟩ := id hA
  obtain ⟨hY, hG, hS, hxs, hrm⟩ := id hrest
  obtain ⟨-, -, K1, K2, ⟨K3, K4, K5⟩, ⟨uu, hu, K6⟩, -⟩ := id hSx
  unfold sx_oLdcS at hr
  obtain ⟨-, hr⟩ := sx_if_ok hr
  simp only [sx_fo_eq] at hr
  unfold sx_k33 at hk
  simp only [Bool.and_eq_true, decide_eq_true_eq] at hk
  obtain ⟨-, hk⟩ := hk
  obtain ⟨u, hu', hk⟩ := sx_oa_ok hk
  simp only [Bool.and_eq_true, decide_eq_true_eq] at hk
  obtain ⟨k1, k2⟩ := hk
  have hZ := (K1 _ u hu').1
  have go : W p l e R s m args below meth c H locs cells slots Q (F0 m (pc + sx_wb w) ls (.ref (b (2 + sx_wa w)) :: st)) := sx_go IH hr hC ⟨hLc, ⟨sx_V_k _, hSt⟩, hrest⟩ hL List.prefix_rfl List.prefix_rfl (fun _ h => h) hQ
  by_cases h2 : sx_wb w = 2
  · rw [if_pos h2] at k2
    rw [h2] at go
    exact va_ldcS hx hb (by rw [k1]; exact hown) hZ (sx_dc_ok k2) go
  · rw [if_neg h2] at k2
    simp only [Bool.and_eq_true, decide_eq_true_eq] at k2
    rw [k2.1] at go
    exact sx_ldcwS hx hb (by rw [k1]; exact hown) hZ (sx_dc_ok k2.2) go

theorem sx_sGets (IH : sx_Ok N ih) (hC : sx_Cx p e R s m meth c D K b N xs A mi d q) (hA : sx_At R s c D K b N xs A ad rs cells slots locs L S h n sy cs ss ls st H) (hL : sx_Ls p l e R s m args below meth c D K b N xs A Q ad rs lst) (hQ : ∀ o ∈ outs, ∀ t, sx_En R s below D K b A ad rs o t → Q t)
    (hk : sx_k34 q pc w = true) (hr : sx_oGets ih w d mi (sx_mt mi).1 lst pc L S h n sy cs ss = some outs) : W p l e R s m args below meth c H locs cells slots Q (F0 m pc ls st) := by
  obtain ⟨-, hx, -, hb, hml, -, -, -, hown, -, hT, hSx, -⟩ := id hC
  obtain ⟨hLc, hSt, hrest⟩ := id hA
  obtain ⟨hY, hG, hS, hxs, hrm⟩ := id hrest
  obtain ⟨-, -, K1, K2, ⟨K3, K4, K5⟩, ⟨uu, hu, K6⟩, -⟩ := id hSx
  unfold sx_oGets at hr
  simp only [sx_fo_eq] at hr
  unfold sx_k34 at hk
  obtain ⟨t, ht, hk⟩ := sx_oa_ok hk
  simp only [Bool.and_eq_true, decide_eq_true_eq] at hk
  obtain ⟨k1, k2, k3⟩ := hk
  have hlink := hT.1 args _ (sx_fx_in ht)
  have go : ∀ x : Value, sx_V b ad rs (sx_wc w) x → W p l e R s m args below meth c H locs cells slots Q (F0 m (pc + 3) ls (x :: st)) := fun x hv => sx_go IH hr hC ⟨hLc, ⟨hv, hSt⟩, hrest⟩ hL List.prefix_rfl List.prefix_rfl (fun _ h => h) hQ
  by_cases h0 : sx_wb w = 0
  · rw [if_pos h0] at k3
    simp only [Bool.and_eq_true, decide_eq_true_eq] at k3
    rw [k3.1] at hlink
    rw [k3.2] at go
    exact va_gets hx hb K4 hS (by rw [k1]; exact hown) hlink (fun _ h => h) (sx_dc_ok k2) (go _ (sx_V_k 1))
  · rw [if_neg h0] at k3
    by_cases h1 : sx_wb w = 1
    · rw [if_pos h1] at k3
      simp only [Bool.and_eq_true, decide_eq_true_eq] at k3
      rw [k3.1] at hlink
      rw [k3.2] at go
      exact va_gets hx hb K3 hS (by rw [k1]; exact hown) hlink (fun _ h => h) (sx_dc_ok k2) (go _ (sx_V_n 1))
    · rw [if_neg h1] at k3
      simp only [Bool.and_eq_true, decide_eq_true_eq] at k3
      rw [k3.1] at hlink
      rw [k3.2] at go
      exact va_gets hx hb K6 hS (by rw [k1]; exact hown) hlink (fun _ h => h) (sx_dc_ok k2) (go _ (Or.inr (Or.inr (Or.inr (Or.inr (Or.inr (Or.inr ⟨rfl, hu⟩)))))))

theorem sx_isS_ok {v : Nat} {x : Value} (h : sx_isS v = true) (hv : sx_V b ad rs v x) : ∃ k q, v / 8 = 2 + k ∧ sx_sr[k]? = some q ∧ x = .ref (b (2 + k)) := by
  unfold sx_isS at h
  obtain ⟨h1, h2⟩ := sx_and_ok h
  obtain ⟨h2, h3⟩ := sx_and_ok h2
  have h2 : 2 ≤ v / 8 := sx_ble h2
  have h3 : v / 8 < 2 + sx_ns := sx_blt h3
  have hl : v / 8 - 2 < sx_sr.length := by rw [sx_sr_len.1]; omega
  exact ⟨v / 8 - 2, _, by omega, List.getElem?_eq_getElem hl, by rw [show 2 + (v / 8 - 2) = v / 8 by omega]; exact hv.t5 (sx_beq h1)⟩
theorem sx_isB_ok {v : Nat} {x : Value} (h : sx_isB v = true) (hv : sx_V b ad rs v x) : ∃ k, v / 8 = 2 + sx_ns + k ∧ Nat.sub (sx_pl v) (Nat.add 2 sx_ns) = k ∧ x = .ref (b (2 + sx_ns + k)) := by
  unfold sx_isB at h
  obtain ⟨h1, h2⟩ := sx_and_ok h
  have h2 : 2 + sx_ns ≤ v / 8 := sx_ble h2
  refine ⟨v / 8 - (2 + sx_ns), by omega, rfl, ?_⟩
  rw [show 2 + sx_ns + (v / 8 - (2 + sx_ns)) = v / 8 by omega]
  exact hv.t5 (sx_beq h1)
theorem sx_sSget (IH : sx_Ok N ih) (hC : sx_Cx p e R s m meth c D K b N xs A mi d q) (hA : sx_At R s c D K b N xs A ad rs cells slots locs L S h n sy cs ss ls st H) (hL : sx_Ls p l e R s m args below meth c D K b N xs A Q ad rs lst) (hQ : ∀ o ∈ outs, ∀ t, sx_En R s below D K b A ad rs o t → Q t)
    (hk : sx_k38 q pc w = true) (hr : sx_oSget ih w d mi (sx_mt mi).1 lst pc L S h n sy cs ss = some outs) : W p l e R s m args below meth c H locs cells slots Q (F0 m pc ls st) := by
  obtain ⟨-, hx, -, hb, hml, -, -, -, hown, -, hT, hSx, -⟩ := id hC
  obtain ⟨hLc, hSt, hrest⟩ := id hA
  obtain ⟨hY, hG, hS, hxs, hrm⟩ := id hrest
  obtain ⟨-, -, K1, K2, ⟨K3, K4, K5⟩, ⟨uu, hu, K6⟩, -⟩ := id hSx
  unfold sx_oSget at hr
  cases S with
  | nil => cases hr
  | cons v r =>
  obtain ⟨x, st', rfl, hv, hSt'⟩ := hSt.cons
  rw [sx_p1_cons] at hr
  obtain ⟨hs, hr⟩ := sx_if_ok hr
  simp only [sx_fo_eq] at hr
  obtain ⟨k, qq, e1, e2, rfl⟩ := sx_isS_ok hs hv
  unfold sx_k38 at hk
  obtain ⟨t, ht, hk⟩ := sx_oa_ok hk
  simp only [Bool.and_eq_true, decide_eq_true_eq] at hk
  obtain ⟨k1, k2, k3⟩ := hk
  have hlink := hT.1 args _ (sx_fx_in ht)
  by_cases h0 : sx_wb w = 0
  · rw [if_pos h0, decide_eq_true_eq] at k3
    rw [k3] at hlink
    rw [sx_beq_t h0, sx_if_t] at hr
    exact vk_getf hx hb (K1 k qq e2).2.2.1 hS (by rw [k1]; exact hown) hlink (fun _ h => h) (sx_dc_ok k2) (sx_go IH hr hC ⟨hLc, ⟨sx_V_n 0, hSt'⟩, hrest⟩ hL List.prefix_rfl List.prefix_rfl (fun _ h => h) hQ)
  · rw [if_neg h0, decide_eq_true_eq] at k3
    rw [k3] at hlink
    rw [sx_beq_e h0, sx_if_f] at hr
    have hv2 : sx_V b ad rs (Nat.add (Nat.mul 8 (Nat.add (sx_pl v) sx_ns)) 5) (.ref (b (2 + k + sx_ns))) := by
      have := sx_V_k (b := b) (ad := ad) (rs := rs) (Nat.add (sx_pl v) sx_ns)
      rw [show Nat.add (sx_pl v) sx_ns = v / 8 + sx_ns from rfl, e1] at this
      rw [show Nat.add (sx_pl v) sx_ns = v / 8 + sx_ns from rfl, e1]
      exact this
    exact vk_getf hx hb (K1 k qq e2).2.2.2 hS (by rw [k1]; exact hown) hlink (fun _ h => h) (sx_dc_ok k2) (sx_go IH hr hC ⟨hLc, ⟨hv2, hSt'⟩, hrest⟩ hL List.prefix_rfl List.prefix_rfl (fun _ h => h) hQ)

theorem sx_nth_some {α : Type} {l : List α} {k : Nat} {x : α} (h : sx_nth l k = some x) : l[k]? = some x := by rw [← sx_nth_eq]; exact h
theorem sx_sBald (IH : sx_Ok N ih) (hC : sx_Cx p e R s m meth c D K b N xs A mi d q) (hA : sx_At R s c D K b N xs A ad rs cells slots locs L S h n sy cs ss ls st H) (hL : sx_Ls p l e R s m args below meth c D K b N xs A Q ad rs lst) (hQ : ∀ o ∈ outs, ∀ t, sx_En R s below D K b A ad rs o t → Q t)
    (hk : sx_dc q pc .baload 1 = true) (hr : sx_oBald ih d mi (sx_mt mi).1 lst pc L S h n sy cs ss = some outs) : W p l e R s m args below meth c H locs cells slots Q (F0 m pc ls st) := by
  obtain ⟨-, hx, -, hb, hml, -, -, -, hown, -, hT, hSx, -⟩ := id hC
  obtain ⟨hLc, hSt, hrest⟩ := id hA
  obtain ⟨hY, hG, hS, hxs, hrm⟩ := id hrest
  obtain ⟨-, -, K1, K2, ⟨K3, K4, K5⟩, ⟨uu, hu, K6⟩, -⟩ := id hSx
  unfold sx_oBald at hr
  cases S with
  | nil => cases hr
  | cons v r =>
  cases r with
  | nil => cases hr
  | cons u r2 =>
  obtain ⟨xi, st1, rfl, hvi, hSt1⟩ := hSt.cons
  obtain ⟨xa, st2, rfl, hva, hSt2⟩ := hSt1.cons
  rw [sx_p1_cons, sx_p1_cons] at hr
  obtain ⟨hs, hr⟩ := sx_if_ok hr
  obtain ⟨k, e1, e2, rfl⟩ := sx_isB_ok hs hva
  rw [e2] at hr
  obtain ⟨t, ht, hr⟩ := sx_opt_ok (show _ = some outs from hr)
  have ht := sx_nth_some ht
  obtain ⟨x, sy', outs', rfl, hr, hsub, hY', -⟩ := sx_ix_ok hr hY hvi
  obtain ⟨z, hz, hr⟩ := sx_opt_ok (show _ = some outs' from hr)
  have hz := sx_nth_some hz
  simp only [sx_fo_eq] at hr
  have hl : x < t.length := (List.getElem?_eq_some_iff.mp hz).1
  have hb5 : t.length ≤ 5000 := of_decide_eq_true (List.all_eq_true.mp sx_sb_ok t (List.mem_of_getElem? ht))
  obtain ⟨i1, i2⟩ := sx_in_ok hl hb5
  have hzz : t.getD x 0 = z := by rw [List.getD_eq_getElem?_getD, hz]; rfl
  exact va_tb hx hb (K2 k t ht) hS i1 (v := .int (Int32.ofNat z)) (by rw [i2, hzz]) (sx_dc_ok hk) (sx_go IH hr hC ⟨hLc, ⟨sx_V_n z, hSt2⟩, hY', hG, hS, hxs, hrm⟩ hL List.prefix_rfl List.prefix_rfl hsub hQ)

theorem sx_sIaldX (IH : sx_Ok N ih) (hC : sx_Cx p e R s m meth c D K b N xs A mi d q) (hA : sx_At R s c D K b N xs A ad rs cells slots locs L S h n sy cs ss ls st H) (hL : sx_Ls p l e R s m args below meth c D K b N xs A Q ad rs lst) (hQ : ∀ o ∈ outs, ∀ t, sx_En R s below D K b A ad rs o t → Q t)
    (hN31 : N < 2 ^ 31) (hk : sx_dc q pc .iaload 1 = true) (hr : sx_oIald ih N d mi (sx_mt mi).1 lst pc L S h n sy cs ss = some outs) : W p l e R s m args below meth c H locs cells slots Q (F0 m pc ls st) := by
  obtain ⟨-, hx, -, hb, hml, -, -, -, hown, -, hT, hSx, -⟩ := id hC
  obtain ⟨hLc, hSt, hrest⟩ := id hA
  obtain ⟨hY, hG, hS, hxs, hrm⟩ := id hrest
  obtain ⟨-, -, K1, K2, ⟨K3, K4, K5⟩, ⟨uu, hu, K6⟩, -⟩ := id hSx
  unfold sx_oIald at hr
  cases S with
  | nil => cases hr
  | cons v r =>
  cases r with
  | nil => cases hr
  | cons u r2 =>
  rw [sx_p1_cons, sx_p1_cons] at hr
  cases h13 : Nat.beq u 13 with
  | false =>
    rw [h13, sx_if_f] at hr
    exact sx_sIald IH hC hA hL hQ hN31 hk hr
  | true =>
    rw [h13, sx_if_t] at hr
    obtain ⟨xi, st1, rfl, hvi, hSt1⟩ := hSt.cons
    obtain ⟨xa, st2, rfl, hva, hSt2⟩ := hSt1.cons
    have e13 : u = 13 := sx_beq h13
    have ea := hva.t5 (by rw [e13])
    rw [show b (u / 8) = b 1 by rw [e13]] at ea
    subst ea
    obtain ⟨x, sy', outs', rfl, hr, hsub, hY', -⟩ := sx_ix_ok hr hY hvi
    obtain ⟨z, hz, hr⟩ := sx_opt_ok (show _ = some outs' from hr)
    have hz := sx_nth_some hz
    simp only [sx_fo_eq] at hr
    have hl : x < 9 := (List.getElem?_eq_some_iff.mp hz).1
    obtain ⟨i1, i2⟩ := sx_in_ok hl (by decide)
    have hzz : sx_ordv.getD x 0 = z := by rw [List.getD_eq_getElem?_getD, hz]; rfl
    exact va_ti hx hb K5 hS i1 (v := .int (Int32.ofNat z)) (by rw [i2, hzz]) (sx_dc_ok hk) (sx_go IH hr hC ⟨hLc, ⟨sx_V_n z, hSt2⟩, hY', hG, hS, hxs, hrm⟩ hL List.prefix_rfl List.prefix_rfl hsub hQ)

theorem sx_sAlenX (IH : sx_Ok N ih) (hC : sx_Cx p e R s m meth c D K b N xs A mi d q) (hA : sx_At R s c D K b N xs A ad rs cells slots locs L S h n sy cs ss ls st H) (hL : sx_Ls p l e R s m args below meth c D K b N xs A Q ad rs lst) (hQ : ∀ o ∈ outs, ∀ t, sx_En R s below D K b A ad rs o t → Q t)
    (hN31 : N < 2 ^ 31) (hk : sx_dc q pc .arraylength 1 = true) (hr : sx_oAlenX ih N d mi (sx_mt mi).1 lst pc L S h n sy cs ss = some outs) : W p l e R s m args below meth c H locs cells slots Q (F0 m pc ls st) := by
  obtain ⟨-, hx, -, hb, hml, -, -, -, hown, -, hT, hSx, -⟩ := id hC
  obtain ⟨hLc, hSt, hrest⟩ := id hA
  obtain ⟨hY, hG, hS, hxs, hrm⟩ := id hrest
  obtain ⟨-, -, K1, K2, ⟨K3, K4, K5⟩, ⟨uu, hu, K6⟩, -⟩ := id hSx
  unfold sx_oAlenX at hr
  cases S with
  | nil => cases hr
  | cons v r =>
  rw [sx_p1_cons] at hr
  cases hs : sx_isB v with
  | false =>
    rw [hs, sx_if_f] at hr
    exact sx_sAlen IH hC hA hL hQ hN31 hk hr
  | true =>
    rw [hs, sx_if_t] at hr
    obtain ⟨x, st', rfl, hv, hSt'⟩ := hSt.cons
    obtain ⟨k, e1, e2, rfl⟩ := sx_isB_ok hs hv
    rw [e2] at hr
    obtain ⟨t, ht, hr⟩ := sx_opt_ok (show _ = some outs from hr)
    have ht := sx_nth_some ht
    simp only [sx_fo_eq] at hr
    exact va_tlen hx hb (K2 k t ht) hS rfl (sx_dc_ok hk) (sx_go IH hr hC ⟨hLc, ⟨sx_V_n t.length, hSt'⟩, hrest⟩ hL List.prefix_rfl List.prefix_rfl (fun _ h => h) hQ)

theorem sx_sLcon (IH : sx_Ok N ih) (hC : sx_Cx p e R s m meth c D K b N xs A mi d q) (hA : sx_At R s c D K b N xs A ad rs cells slots locs L S h n sy cs ss ls st H) (hL : sx_Ls p l e R s m args below meth c D K b N xs A Q ad rs lst) (hQ : ∀ o ∈ outs, ∀ t, sx_En R s below D K b A ad rs o t → Q t)
    (hk : sx_k41 q pc w = true) (hr : sx_oLcon ih w d mi (sx_mt mi).1 lst pc L S h n sy cs ss = some outs) : W p l e R s m args below meth c H locs cells slots Q (F0 m pc ls st) := by
  obtain ⟨-, hx, -, hb, hml, -, -, -, hown, -, hT, hSx, -⟩ := id hC
  obtain ⟨hLc, hSt, hrest⟩ := id hA
  obtain ⟨hY, hG, hS, hxs, hrm⟩ := id hrest
  obtain ⟨-, -, K1, K2, ⟨K3, K4, K5⟩, ⟨uu, hu, K6⟩, -⟩ := id hSx
  unfold sx_oLcon at hr
  obtain ⟨t, ht, hr⟩ := sx_opt_ok hr
  have ht := sx_nth_some ht
  simp only [sx_fo_eq] at hr
  unfold sx_k41 at hk
  obtain ⟨t', ht', hk⟩ := sx_oa_ok hk
  cases ht.symm.trans ht'
  simp only [Bool.and_eq_true, decide_eq_true_eq] at hk
  exact lv_ldc2 hx hb (by rw [hk.1]; exact hown) (hT.1 _ _ (sx_cg_in ht)) (sx_dc_ok hk.2) (sx_go IH hr hC ⟨hLc, ⟨sx_V_j _, hSt⟩, hrest⟩ hL List.prefix_rfl List.prefix_rfl (fun _ h => h) hQ)

theorem sx_ch_ok {k : Nat} (h : k < 65536) : ((Int32.ofNat k).toUInt32 % 65536).toInt32 = Int32.ofNat k := by
  apply Int32.toBitVec_inj.mp
  have e1 : ((Int32.ofNat k).toUInt32 % 65536).toInt32.toBitVec = (Int32.ofNat k).toBitVec % 65536#32 := rfl
  rw [e1]
  apply BitVec.eq_of_toNat_eq
  rw [BitVec.toNat_umod]
  have e2 : (Int32.ofNat k).toBitVec.toNat = k % 2 ^ 32 := rfl
  rw [e2]
  show k % 2 ^ 32 % 65536 = k % 2 ^ 32
  omega
theorem sx_sI2c (IH : sx_Ok N ih) (hC : sx_Cx p e R s m meth c D K b N xs A mi d q) (hA : sx_At R s c D K b N xs A ad rs cells slots locs L S h n sy cs ss ls st H) (hL : sx_Ls p l e R s m args below meth c D K b N xs A Q ad rs lst) (hQ : ∀ o ∈ outs, ∀ t, sx_En R s below D K b A ad rs o t → Q t)
    (hk : sx_dc q pc .i2c 1 = true) (hr : sx_oI2c ih d mi (sx_mt mi).1 lst pc L S h n sy cs ss = some outs) : W p l e R s m args below meth c H locs cells slots Q (F0 m pc ls st) := by
  obtain ⟨-, hx, -, hb, hml, -, -, -, hown, -, hT, hSx, -⟩ := id hC
  obtain ⟨hLc, hSt, hrest⟩ := id hA
  obtain ⟨hY, hG, hS, hxs, hrm⟩ := id hrest
  obtain ⟨-, -, K1, K2, ⟨K3, K4, K5⟩, ⟨uu, hu, K6⟩, -⟩ := id hSx
  unfold sx_oI2c at hr
  cases S with
  | nil => cases hr
  | cons v r =>
  obtain ⟨x, st', rfl, hv, hSt'⟩ := hSt.cons
  rw [sx_p1_cons] at hr
  obtain ⟨v', hr, hv', -⟩ := sx_nm_ok hr hY hv
  obtain ⟨hc, hr⟩ := sx_if_ok hr
  obtain ⟨c1, c2⟩ := sx_and_ok hc
  simp only [sx_fo_eq] at hr
  have ev := hv'.t0 (sx_beq c1)
  subst ev
  exact lv_i2c hx hb (sx_dc_ok hk) (sx_ch_ok (sx_blt c2)) (sx_go IH hr hC ⟨hLc, ⟨hv', hSt'⟩, hrest⟩ hL List.prefix_rfl List.prefix_rfl (fun _ h => h) hQ)

theorem sx_fit_b : ∀ k : Fin 128, narrow .byte (.int (Int32.ofNat k.val)) = .int (Int32.ofNat k.val) := by decide +kernel
theorem sx_fit_c {k : Nat} (h : k < 65536) : narrow .char (.int (Int32.ofNat k)) = .int (Int32.ofNat k) := by
  show Value.int (Int32.ofNat k).toUInt32.toUInt16.toUInt32.toInt32 = Value.int (Int32.ofNat k)
  refine congrArg Value.int (Int32.toBitVec_inj.mp (BitVec.eq_of_toNat_eq ?_))
  have e2 : (Int32.ofNat k).toBitVec.toNat = k % 2 ^ 32 := rfl
  have e1 : (Int32.ofNat k).toUInt32.toUInt16.toUInt32.toInt32.toBitVec.toNat = (Int32.ofNat k).toBitVec.toNat % 65536 := by
    show ((Int32.ofNat k).toUInt32.toUInt16.toUInt32).toNat = _
    rw [UInt16.toNat_toUInt32, UInt32.toNat_toUInt16]
    rfl
  rw [e1, e2]
  omega
theorem sx_sRetN (IH : sx_Ok N ih) (hC : sx_Cx p e R s m meth c D K b N xs A mi d q) (hA : sx_At R s c D K b N xs A ad rs cells slots locs L S h n sy cs ss ls st H) (hL : sx_Ls p l e R s m args below meth c D K b N xs A Q ad rs lst) (hQ : ∀ o ∈ outs, ∀ t, sx_En R s below D K b A ad rs o t → Q t)
    (hk : sx_k43 q pc w = true) (hr : sx_oRetN w S h n sy cs ss = some outs) : W p l e R s m args below meth c H locs cells slots Q (F0 m pc ls st) := by
  obtain ⟨-, hx, -, hb, hml, -, -, -, hown, -, hT, hSx, -⟩ := id hC
  obtain ⟨hLc, hSt, hrest⟩ := id hA
  obtain ⟨hY, hG, hS, hxs, hrm⟩ := id hrest
  obtain ⟨-, -, K1, K2, ⟨K3, K4, K5⟩, ⟨uu, hu, K6⟩, -⟩ := id hSx
  obtain ⟨-, -, -, -, -, hret, -, -, -, hlocks, -⟩ := id hC
  unfold sx_oRetN at hr
  cases S with
  | nil => cases hr
  | cons v r =>
  obtain ⟨x, st', rfl, hv, hSt'⟩ := hSt.cons
  rw [sx_p1_cons] at hr
  obtain ⟨hc, hr⟩ := sx_if_ok hr
  obtain ⟨c1, c2⟩ := sx_and_ok hc
  cases r with
  | cons y r2 => cases hr
  | nil =>
  have e := hSt'.nil
  subst e
  have hr : some [(1, v, h, n, sy, cs, ss)] = some outs := hr
  cases hr
  have hQ1 := hQ _ (List.mem_singleton.mpr rfl)
  have ho : ∀ t, sx_Oc s b ad rs 1 v (.returned (some x)) t := fun t => Or.inr (Or.inl ⟨rfl, x, rfl, hv⟩)
  have ev := hv.t0 (sx_beq c1)
  subst ev
  unfold sx_k43 at hk
  by_cases h0 : sx_wa w = 0
  · rw [if_pos h0] at hk
    rw [sx_beq_t h0, sx_if_t] at c2
    simp only [Bool.and_eq_true, decide_eq_true_eq] at hk
    have hlt : v / 8 < 128 := sx_blt c2
    exact sx_imp (W.zret (Qc := fun _ _ o t => o = .returned (some (.int (Int32.ofNat (v / 8)))) ∧ t.heap = H) (free := A) hx hb (hret.trans hk.1) (sx_fit_b ⟨v / 8, hlt⟩) (fun t h1 _ => ⟨rfl, h1⟩) hS.2.2 (sx_dc_ok hk.2) hlocks) (sx_ended hA hQ1 ho)
  · rw [if_neg h0] at hk
    rw [sx_beq_e h0, sx_if_f] at c2
    simp only [Bool.and_eq_true, decide_eq_true_eq] at hk
    have hlt : v / 8 < 65536 := sx_blt c2
    exact sx_imp (W.zret (Qc := fun _ _ o t => o = .returned (some (.int (Int32.ofNat (v / 8)))) ∧ t.heap = H) (free := A) hx hb (hret.trans hk.1) (sx_fit_c hlt) (fun t h1 _ => ⟨rfl, h1⟩) hS.2.2 (sx_dc_ok hk.2) hlocks) (sx_ended hA hQ1 ho)

theorem sx_sInvW (IH : sx_Ok N ih) (hC : sx_Cx p e R s m meth c D K b N xs A mi d q) (hA : sx_At R s c D K b N xs A ad rs cells slots locs L S h n sy cs ss ls st H) (hL : sx_Ls p l e R s m args below meth c D K b N xs A Q ad rs lst) (hQ : ∀ o ∈ outs, ∀ t, sx_En R s below D K b A ad rs o t → Q t)
    (hMO : sx_MO) (hM : sx_Mok mi q) (hk : sx_k40 q pc w = true) (hr : sx_oInvW ih w d mi (sx_mt mi).1 lst pc L S h n sy cs ss = some outs) : W p l e R s m args below meth c H locs cells slots Q (F0 m pc ls st) := by
  obtain ⟨-, hx, -, hb, hml, -, -, -, hown, -, hT, hSx, -⟩ := id hC
  obtain ⟨hLc, hSt, hrest⟩ := id hA
  obtain ⟨hY, hG, hS, hxs, hrm⟩ := id hrest
  obtain ⟨-, -, K1, K2, ⟨K3, K4, K5⟩, ⟨uu, hu, K6⟩, -⟩ := id hSx
  unfold sx_oInvW at hr
  cases S with
  | nil => cases hr
  | cons v r =>
  rw [sx_p1_cons, sx_rdK_eq] at hr
  unfold sx_k40 at hk
  rw [Bool.and_eq_true] at hk
  simp only [sx_fo_eq] at hr
  cases hc : Nat.beq (Nat.mod (Nat.shiftRight (sx_wb w) (Nat.mod (sx_rd h (sx_pl v)).1 256)) 2) 1 with
  | true => rw [hc, sx_if_t] at hr; exact sx_sInvV IH hC hA hL hQ hMO hM hk.1 hr
  | false => rw [hc, sx_if_f] at hr; exact sx_sInvV IH hC hA hL hQ hMO hM hk.2 hr

def sx_xC (v : Nat × Nat × Nat × Nat) : Bool := sx_oa (sx_ml[v.1]?) (fun t => sx_oa (sx_sl[v.2.2.1]?) (fun z => decide (z.1 = "java/lang/String") && (decide (z.2.1 = t.2.2) && decide (z.2.2 = sx_nam v.2.1))) && (sx_oa (sx_iml[v.2.2.2]?) (fun y => decide (y = sx_nam v.2.1)) && (decide (t.2.2 = sx_nam v.2.1) && (!sx_stl.contains v.2.1 && decide (v.2.1 ≠ 0)))))
theorem sx_xC_ok : sx_xt.all sx_xC = true := by decide +kernel
theorem sx_sInvX (IH : sx_Ok N ih) (hC : sx_Cx p e R s m meth c D K b N xs A mi d q) (hA : sx_At R s c D K b N xs A ad rs cells slots locs L S h n sy cs ss ls st H) (hL : sx_Ls p l e R s m args below meth c D K b N xs A Q ad rs lst) (hQ : ∀ o ∈ outs, ∀ t, sx_En R s below D K b A ad rs o t → Q t)
    (hMO : sx_MO) (hM : sx_Mok mi q) (hk : sx_k39 q pc w = true) (hr : sx_oInvX ih w d mi (sx_mt mi).1 lst pc L S h n sy cs ss = some outs) : W p l e R s m args below meth c H locs cells slots Q (F0 m pc ls st) := by
  obtain ⟨-, hx, -, hb, hml, -, -, -, hown, -, hT, hSx, -⟩ := id hC
  obtain ⟨hLc, hSt, hrest⟩ := id hA
  obtain ⟨hY, hG, hS, hxs, hrm⟩ := id hrest
  obtain ⟨-, -, K1, K2, ⟨K3, K4, K5⟩, ⟨uu, hu, K6⟩, -⟩ := id hSx
  unfold sx_oInvX at hr
  rw [sx_fo_eq, sx_mtK_eq] at hr
  obtain ⟨av, rest, avs', restv, hr, hav, hre, rfl, hl1, hl2⟩ := sx_tk_ok hr hSt (show sx_St b ad rs [] [] from trivial)
  rw [List.append_nil] at hav
  cases av with
  | nil => cases hr
  | cons o at' =>
  obtain ⟨xo, argsL, hrv, ho, hat⟩ := hav.cons
  have hr : sx_if (sx_isS o) (sx_call ih d mi (sx_mt mi).1 lst pc L h n sy cs ss (o :: at') rest (sx_wc w)) none = some outs := hr
  obtain ⟨hs, hr⟩ := sx_if_ok hr
  obtain ⟨k, qq, e1, e2, rfl⟩ := sx_isS_ok hs ho
  unfold sx_k39 at hk
  obtain ⟨t, ht, hk⟩ := sx_oa_ok hk
  simp only [Bool.and_eq_true, decide_eq_true_eq] at hk
  obtain ⟨hcls, hd, hk⟩ := hk
  obtain ⟨v, hv, hk1⟩ := List.any_eq_true.mp hk
  simp only [Bool.and_eq_true, decide_eq_true_eq] at hk1
  obtain ⟨v1, v2⟩ := hk1
  have hvC := List.all_eq_true.mp sx_xC_ok v hv
  unfold sx_xC at hvC
  rw [v1, v2] at hvC
  obtain ⟨t', ht', hvC⟩ := sx_oa_ok hvC
  cases ht.symm.trans ht'
  simp only [Bool.and_eq_true, decide_eq_true_eq] at hvC
  obtain ⟨w1, w2, w3, w4, w5⟩ := hvC
  obtain ⟨z, hz, w1⟩ := sx_oa_ok w1
  simp only [Bool.and_eq_true, decide_eq_true_eq] at w1
  obtain ⟨z1, z2, z3⟩ := w1
  obtain ⟨yy, hyy, w2⟩ := sx_oa_ok w2
  have w2 : yy = sx_nam (sx_wc w) := of_decide_eq_true w2
  obtain ⟨r, hmr⟩ : ∃ r, sx_ms[sx_wc w]? = some r := by
    cases hx0 : sx_ms[sx_wc w]? with
    | some r => exact ⟨r, rfl⟩
    | none =>
      exfalso
      have hb := sx_iml_nn hyy
      rw [w2] at hb
      unfold sx_nam at hb
      rw [hx0] at hb
      exact hb rfl
  have hnam := sx_nam_eq hmr
  rw [hnam] at z3 w2 w3
  have hsel := hT.1 args _ (sx_sl_in hz)
  rw [z1, z2, z3] at hsel
  have hinst := hT.1 args _ (sx_iml_in hyy)
  rw [w2] at hinst
  obtain ⟨cellB, hcB, hoB, hclB, -⟩ := (K1 k qq e2).2.1.kept hS.2.1
  refine sx_inv IH hC hA hL hQ hMO hM hr (avs := .ref (b (2 + k)) :: argsL) (by rw [← hrv]; exact hav) hre hmr w5 (fun T hTH X => ?_)
  have hcj : 0 < (sx_mt (sx_wc w)).1 := sx_call_pos hr
  have hMj := hMO _ r hmr hcj
  have hnB := (hMj.2.2.2.2.2 w5).1
  unfold sx_nB at hnB
  rw [if_neg (by rw [Bool.not_eq_true]; simpa using w4)] at hnB
  have hnB := of_decide_eq_true hnB
  have hlenA : argsL.length + 1 = sx_ia (sx_mt (sx_wc w)).2 := by
    have h1 : avs'.reverse.length = argsL.length + 1 := by rw [hrv]; rfl
    rw [List.length_reverse] at h1
    omega
  have hlen : ∀ sig, parseMethodDescriptor r.1.desc = some sig → argsL.length = sig.parameters.length := by
    intro sig hs
    rw [hs] at hnB
    have : sig.parameters.length + 1 = sx_ia (sx_mt (sx_wc w)).2 := Option.some.inj hnB
    omega
  have hstack : (F0 m pc ls (avs' ++ restv)).stack = argsL.reverse ++ .ref (b (2 + k)) :: restv := by
    show avs' ++ restv = _
    have : avs' = argsL.reverse ++ [.ref (b (2 + k))] := by rw [← List.reverse_reverse avs', hrv, List.reverse_cons]
    rw [this, List.append_assoc]
    rfl
  have hlink : (Cond.methodLink q.1.cls t.2.1 t.2.2).before args s = true := by rw [← hcls]; exact hT.1 args _ (sx_ml_in ht)
  obtain ⟨mk, methM, hnamed, hmethM, hstM, habM⟩ := Cond.instanceMethod_spec hinst
  obtain ⟨mk', methk, ck, n1, n2, -, -, -, -, -, -, hsigM, -⟩ := sx_meth hT w5 hMj
  cases hnamed.symm.trans n1
  cases hmethM.symm.trans n2
  obtain ⟨c2', r2, m2, q1, q2, q3, q4, kP, hkP, hkPi⟩ := Cond.selects_spec hsel
  cases hclB.symm.trans q1
  cases hnamed.symm.trans q3
  have hcT : T.heap[b (2 + k)]? = some cellB := by rw [hTH]; exact hcB
  have hne : ∀ z, cellB.vm ≠ .statics z := fun z hz => by rw [hz] at hoB; cases hoB
  rw [w3] at hlink q2
  cases (State.methodFound?_of_named hnamed hMj.2.2.2.1).symm.trans q2
  have hselP : selectMethod e.platform s.vm cellB.cls mk = .method mk := by rw [Launch.admits_selectMethod X.admits]; exact q4
  obtain ⟨vm₁, X₁, hstep₁⟩ := X.invokevirtual hx hown hlink hnamed hmethM hstM hkP hkPi hMj.2.2.2.1 hcT hne hselP hmethM habM hkP hkPi (g := F0 m pc ls (avs' ++ restv)) rfl (argsL := argsL) (rest := restv) (hlen _ hsigM) hstack (by rw [hb]; exact sx_dc_ok hd)
  exact ⟨vm₁, mk, _, X₁, hnamed, by rw [hb]; exact sx_dc_ok hd, fun target ht => hstep₁ _ fun acts => by rw [doInvoke_state]; exact ht⟩

end SXNops
end
section
/-! sx: the heads of loops -/
section SXHead
variable {N : Nat} {ih : sx_ih} {w d mi pc n cs ss : Nat} {lst : List sx_I} {L S : List Nat} {h : sx_H} {sy : sx_Y} {outs : List sx_O}
variable {p : Program} {l : Launch} {e : Env} {R : Room} {s : State} {m : MethodId} {args : Array Value} {below : List Frame} {meth : Method} {c : Code} {D : va_G} {K : ClassId → FieldType → Prop} {b : Nat → Nat} {xs : Nat → Int32} {A : Nat → Prop} {q : sx_M}
variable {ad : List Nat} {rs : List Int32} {ls : Array Slot} {st : List Value} {H : Heap} {locs : List Loc} {cells slots : Nat} {Q : State → Prop}
theorem sx_rng_ok {v lo hi : Nat} {x : Value} (h : sx_rng sy v lo hi = true) (hy : sx_Yok rs sy) (hv : sx_V b ad rs v x) : ∃ z, x = .int z ∧ lo ≤ sx_b z ∧ sx_b z ≤ hi := by
  unfold sx_rng at h
  cases h0 : Nat.beq (sx_tg v) 0 with
  | true =>
    rw [h0, sx_if_t] at h
    obtain ⟨h1, h2⟩ := sx_and_ok h
    have e := hv.t0 (sx_beq h0)
    exact ⟨_, e, by rw [sx_b_ofNat]; exact sx_ble h1, by rw [sx_b_ofNat]; exact sx_ble h2⟩
  | false =>
    rw [h0, sx_if_f] at h
    cases h1 : Nat.beq (sx_tg v) 1 with
    | false => rw [h1, sx_if_f] at h; cases h
    | true =>
      rw [h1, sx_if_t, sx_nth_eq] at h
      obtain ⟨z, hz, e⟩ := hv.t1 (sx_beq h1)
      obtain ⟨en, hen, e1, e2, -⟩ := hy.at hz
      rw [show sy[sx_pl v]? = some en from hen] at h
      obtain ⟨h2, h3⟩ := sx_and_ok h
      exact ⟨z, e, Nat.le_trans (sx_ble h2) e1, Nat.le_trans e2 (sx_ble h3)⟩
theorem sx_Vre {rs' : List Int32} {k0 v : Nat} {x : Value} (hv : sx_V b ad rs v x) (hs : v % 8 = 1 → v / 8 < k0) (hr : ∀ k, k < k0 → rs'[k]? = rs[k]?) : sx_V b ad rs' v x := by
  rcases hv with h | ⟨h, z, h1, h2⟩ | h | h | h | h | h
  · exact Or.inl h
  · exact Or.inr (Or.inl ⟨h, z, by rw [hr _ (hs h)]; exact h1, h2⟩)
  · exact Or.inr (Or.inr (Or.inl h))
  · exact Or.inr (Or.inr (Or.inr (Or.inl h)))
  · exact Or.inr (Or.inr (Or.inr (Or.inr (Or.inl h))))
  · exact Or.inr (Or.inr (Or.inr (Or.inr (Or.inr (Or.inl h)))))
  · exact Or.inr (Or.inr (Or.inr (Or.inr (Or.inr (Or.inr h)))))
theorem sx_Vsy {v : Nat} {x : Value} (hv : sx_V b ad rs v x) (h : v % 8 = 1) : v / 8 < rs.length := by
  obtain ⟨z, hz, -⟩ := hv.t1 h
  exact (List.getElem?_eq_some_iff.mp hz).1
theorem sx_Ere {rs' : List Int32} {k0 : Nat} {cc : Nat × Nat} {en : va_E} (hE : sx_E K b ad rs cc en) (hs : ∀ j, j < cc.1 / 256 → sx_get cc.2 j % 8 = 1 → sx_get cc.2 j / 8 < k0) (hr : ∀ k, k < k0 → rs'[k]? = rs[k]?) : sx_E K b ad rs' cc en := by
  rcases hE with ⟨ci, fs, h1, h2, h3, h4, h5⟩ | ⟨cA, f, h1, h2, h3, h4⟩ | h | h
  · exact Or.inl ⟨ci, fs, h1, h2, h3, h4, fun j v hv => sx_Vre (h5 j v hv) (hs j (by rw [← h4]; exact (List.getElem?_eq_some_iff.mp hv).1)) hr⟩
  · exact Or.inr (Or.inl ⟨cA, f, h1, h2, h3, fun j hj => sx_Vre (h4 j hj) (hs j hj) hr⟩)
  · exact Or.inr (Or.inr (Or.inl h))
  · exact Or.inr (Or.inr (Or.inr h))
theorem sx_Esy {cc : Nat × Nat} {en : va_E} (hE : sx_E K b ad rs cc en) {j : Nat} (hj : j < cc.1 / 256) (h8 : sx_get cc.2 j % 8 = 1) : sx_get cc.2 j / 8 < rs.length := by
  rcases hE with ⟨ci, fs, h1, h2, h3, h4, h5⟩ | ⟨cA, f, h1, h2, h3, h4⟩ | ⟨cA, f, h1, h2, h3, h4⟩ | ⟨cA, f, h1, h2, h3, h4⟩
  · exact sx_Vsy (h5 j _ (List.getElem?_eq_getElem (by rw [h4]; exact hj))) h8
  · exact sx_Vsy (h4 j hj) h8
  · have := (h4 j hj).1; omega
  · rcases h4 j hj with q | ⟨q, -, q2, -⟩
    · rw [q.1] at h8; omega
    · omega
theorem sx_Eset {cc : Nat × Nat} {en : va_E} {j lo hi : Nat} (hE : sx_E K b ad rs cc en) (hy : sx_Yok rs sy) (h99 : cc.1 % 256 ≤ 100) (hj : j < cc.1 / 256) (hg : sx_rng sy (sx_get cc.2 j) lo hi = true) :
    ∃ z, lo ≤ sx_b z ∧ sx_b z ≤ hi ∧ ∀ (rs' : List Int32) (u k0 : Nat), u % 8 = 1 → u ≤ 1000000 → rs'[u / 8]? = some z → (∀ i, i < cc.1 / 256 → i ≠ j → sx_get cc.2 i % 8 = 1 → sx_get cc.2 i / 8 < k0) → (∀ k, k < k0 → rs'[k]? = rs[k]?) → sx_E K b ad rs' (cc.1, sx_set cc.2 j u) en := by
  rcases hE with ⟨ci, fs, h1, h2, h3, h4, h5⟩ | ⟨cA, f, h1, h2, h3, h4⟩ | ⟨cA, f, h1, h2, h3, h4⟩ | ⟨cA, f, h1, h2, h3, h4⟩
  · have hl : j < fs.length := by rw [h4]; exact hj
    obtain ⟨z, hz, z1, z2⟩ := sx_rng_ok hg hy (h5 j _ (List.getElem?_eq_getElem hl))
    refine ⟨z, z1, z2, fun rs' u k0 hu hu2 hz2 hs hr => Or.inl ⟨ci, fs, h1, h2, h3, h4, fun i v hv => ?_⟩⟩
    have hu72 : u < 2 ^ 72 := Nat.lt_of_le_of_lt hu2 (by decide)
    by_cases hij : i = j
    · subst hij
      rw [List.getElem?_eq_getElem hl, hz] at hv
      cases hv
      show sx_V b ad rs' (sx_get (sx_set cc.2 i u) i) _
      rw [sx_get_set hu72]
      exact Or.inr (Or.inl ⟨hu, z, hz2, rfl⟩)
    · show sx_V b ad rs' (sx_get (sx_set cc.2 j u) i) _
      rw [sx_get_set_ne hu72 hij]
      exact sx_Vre (h5 i v hv) (hs i (by rw [← h4]; exact (List.getElem?_eq_some_iff.mp hv).1) hij) hr
  · obtain ⟨z, hz, z1, z2⟩ := sx_rng_ok hg hy (h4 j hj)
    have hz : f j = z := by cases hz; rfl
    refine ⟨z, z1, z2, fun rs' u k0 hu hu2 hz2 hs hr => Or.inr (Or.inl ⟨cA, f, h1, h2, h3, fun i hi => ?_⟩)⟩
    have hu72 : u < 2 ^ 72 := Nat.lt_of_le_of_lt hu2 (by decide)
    by_cases hij : i = j
    · subst hij
      show sx_V b ad rs' (sx_get (sx_set cc.2 i u) i) _
      rw [sx_get_set hu72]
      exact Or.inr (Or.inl ⟨hu, z, hz2, by rw [hz]⟩)
    · show sx_V b ad rs' (sx_get (sx_set cc.2 j u) i) _
      rw [sx_get_set_ne hu72 hij]
      exact sx_Vre (h4 i hi) (hs i hi hij) hr
  · omega
  · omega
/-- a place of the cells and a local get symbols -/
theorem sx_pla_ok {c0 j0 u lo hi r v lr hr' n : Nat} {K' : List Nat → sx_H → sx_R} (hr : sx_pla c0 j0 u lo hi r v lr hr' n sy L h K' = some outs) (hLc : sx_Lc b ad rs L ls) (hY : sx_Yok rs sy) (hG : sx_G D K b A ad rs h n H) :
    ∃ (z1 z2 : Int32) (h' : sx_H), K' (L.set r v) h' = some outs ∧ r < L.length ∧ u ≤ 1000000 ∧ lr ≤ sx_b z1 ∧ sx_b z1 ≤ hr' ∧ lo ≤ sx_b z2 ∧ sx_b z2 ≤ hi ∧ (∀ x, ls[r]? = some (Slot.val x) → x = .int z1) ∧ sx_V b ad rs (sx_ln L r) (.int z1) ∧
      (∀ k j, k < n → j < (sx_rd h' k).1 / 256 → ¬ (k = c0 ∧ j = j0) → (j < (sx_rd h k).1 / 256 ∧ sx_get (sx_rd h' k).2 j = sx_get (sx_rd h k).2 j)) ∧
      (∀ (rs' : List Int32) (L0 : List Nat) (k0 : Nat), L0.length = L.length → (∀ i w : Nat, L0[i]? = some w → w ≠ 7 → (L.set r v)[i]? = some w) → v % 8 = 1 → rs'[v / 8]? = some z1 → (∀ i w : Nat, L0[i]? = some w → i ≠ r → w % 8 = 1 → w / 8 < k0) → (∀ k, k < k0 → rs'[k]? = rs[k]?) → sx_Lc b ad rs' L0 ls) ∧
      (∀ (rs' : List Int32) (k0 : Nat), u % 8 = 1 → rs'[u / 8]? = some z2 → (∀ k j, k < n → j < (sx_rd h' k).1 / 256 → ¬ (k = c0 ∧ j = j0) → sx_get (sx_rd h' k).2 j % 8 = 1 → sx_get (sx_rd h' k).2 j / 8 < k0) → (∀ k, k < k0 → rs'[k]? = rs[k]?) → sx_G D K b A ad rs' h' n H) := by
  unfold sx_pla at hr
  obtain ⟨hc, hr⟩ := sx_if_ok hr
  obtain ⟨c1, hc⟩ := sx_and_ok hc
  obtain ⟨c2, hc⟩ := sx_and_ok hc
  obtain ⟨c3, c4⟩ := sx_and_ok hc
  have c2 : r < L.length := sx_blt c2
  have c3 : c0 < n := sx_blt c3
  have c4 : u ≤ 1000000 := sx_ble c4
  rw [sx_rdK_eq] at hr
  obtain ⟨hc, hr⟩ := sx_if_ok hr
  obtain ⟨d1, hc⟩ := sx_and_ok hc
  obtain ⟨d2, d3⟩ := sx_and_ok hc
  have d1 : (sx_rd h c0).1 % 256 ≤ 100 := sx_ble d1
  have d2 : j0 < (sx_rd h c0).1 / 256 := sx_blt d2
  rw [sx_fo_eq, sx_wrK_eq, sx_stK_eq] at hr
  have hn7 : sx_ln L r ≠ 7 := by
    intro q
    rw [q] at c1
    cases c1
  obtain ⟨x1, hx1, hv1⟩ := hLc.2.2 r _ (sx_ln_at rfl hn7) hn7
  obtain ⟨z1, rfl, z1l, z1h⟩ := sx_rng_ok c1 hY hv1
  obtain ⟨ws, hP, hD, g3, g4, g5, g6⟩ := id hG
  have hcl : c0 < ws.length := by rw [← List.length_map (f := Prod.fst), g3, g4]; exact c3
  have hEc := g6 c0 _ (List.getElem?_eq_getElem hcl)
  obtain ⟨z2, z2l, z2h, hset⟩ := sx_Eset hEc hY d1 d2 d3
  have hrd : sx_rd (sx_wr h c0 ((sx_rd h c0).1, sx_set (sx_rd h c0).2 j0 u)) c0 = ((sx_rd h c0).1, sx_set (sx_rd h c0).2 j0 u) := sx_rd_wr _ _ _
  have hrn : ∀ k, k < n → k ≠ c0 → sx_rd (sx_wr h c0 ((sx_rd h c0).1, sx_set (sx_rd h c0).2 j0 u)) k = sx_rd h k := fun k hk hne => sx_rd_wr_ne _ _ (by omega) (by omega) hne
  have hu72 : u < 2 ^ 72 := Nat.lt_of_le_of_lt c4 (by decide)
  refine ⟨z1, z2, _, hr, c2, c4, z1l, z1h, z2l, z2h, fun x hx => by rw [hx1] at hx; cases hx; rfl, hv1, fun k j hk hj hne => ?_, fun rs' L0 k0 hlen hsub hv8 hz1 hs hrs => ⟨by rw [hlen]; exact hLc.1, hLc.2.1, fun i w hi h7 => ?_⟩, fun rs' k0 hu8 hz2 hs hrs => ⟨ws, hP, hD, g3, g4, g5, fun k qq hk => ?_⟩⟩
  · by_cases hkc : k = c0
    · subst hkc
      rw [hrd] at hj ⊢
      exact ⟨hj, sx_get_set_ne hu72 (fun q => hne ⟨rfl, q⟩)⟩
    · rw [hrn k hk hkc] at hj ⊢
      exact ⟨hj, rfl⟩
  · have hi2 := hsub i w hi h7
    by_cases hir : i = r
    · subst hir
      rw [List.getElem?_set_self c2] at hi2
      cases hi2
      exact ⟨_, hx1, Or.inr (Or.inl ⟨hv8, z1, hz1, rfl⟩)⟩
    · rw [List.getElem?_set_ne (fun q => hir q.symm)] at hi2
      obtain ⟨x, hx, hv⟩ := hLc.2.2 i w hi2 h7
      exact ⟨x, hx, sx_Vre hv (hs i w hi hir) hrs⟩
  · have hkn : k < n := by rw [← g4, ← g3, List.length_map]; exact (List.getElem?_eq_some_iff.mp hk).1
    by_cases hkc : k = c0
    · subst hkc
      rw [List.getElem?_eq_getElem hcl] at hk
      cases hk
      rw [hrd]
      refine hset rs' u k0 hu8 c4 hz2 (fun i hi hij h8 => ?_) hrs
      have := hs k i hkn (by rw [hrd]; exact hi) (fun q => hij q.2) (by rw [hrd]; show sx_get (sx_set _ _ _) _ % 8 = 1; rw [sx_get_set_ne hu72 hij]; exact h8)
      rw [hrd] at this
      have this : sx_get (sx_set (sx_rd h k).2 j0 u) i / 8 < k0 := this
      rw [sx_get_set_ne hu72 hij] at this
      exact this
    · have hsk := hs k
      rw [hrn k hkn hkc] at hsk ⊢
      exact sx_Ere (g6 k qq hk) (fun i hi h8 => hsk i hkn hi (fun q => hkc q.1) h8) hrs
theorem sx_lle_ok : ∀ {a z : List Nat}, sx_lle a z = true → z.length = a.length ∧ ∀ i w : Nat, z[i]? = some w → w ≠ 7 → a[i]? = some w
  | [], [], _ => ⟨rfl, fun i w h => by simp at h⟩
  | [], _ :: _, h => by cases h
  | _ :: _, [], h => by cases h
  | x :: a, y :: z, h => by
    have h : sx_and (sx_if (Nat.beq y 7) true (Nat.beq x y)) (sx_lle a z) = true := h
    obtain ⟨h1, h2⟩ := sx_and_ok h
    obtain ⟨q1, q2⟩ := sx_lle_ok h2
    refine ⟨by simp [q1], fun i w hi h7 => ?_⟩
    cases i with
    | zero =>
      simp at hi
      subst hi
      rw [sx_beq_e h7, sx_if_f] at h1
      rw [sx_beq h1]
      rfl
    | succ i =>
      rw [List.getElem?_cons_succ] at hi ⊢
      exact q2 i w hi h7
theorem sx_q4_ok {α : Type} {eq : α → α → Bool} (he : ∀ a z, eq a z = true → a = z) : ∀ {t u : sx_Q α}, sx_q4 eq t u = true → t = u
  | (a, b0, c0, d0), (a2, b2, c2, d2), h => by
    have h : sx_and (eq a a2) (sx_and (eq b0 b2) (sx_and (eq c0 c2) (eq d0 d2))) = true := h
    obtain ⟨h1, h⟩ := sx_and_ok h
    obtain ⟨h2, h⟩ := sx_and_ok h
    obtain ⟨h3, h4⟩ := sx_and_ok h
    rw [he _ _ h1, he _ _ h2, he _ _ h3, he _ _ h4]
theorem sx_heq_ok {t u : sx_H} (h : sx_heq t u = true) : t = u :=
  sx_q4_ok (fun _ _ h => sx_q4_ok (fun _ _ h => sx_q4_ok (fun _ _ h => sx_q4_ok (fun a z h => by
    obtain ⟨a1, a2⟩ := a
    obtain ⟨b1, b2⟩ := z
    have h : sx_and (Nat.beq a1 b1) (Nat.beq a2 b2) = true := h
    obtain ⟨h1, h2⟩ := sx_and_ok h
    rw [sx_beq h1, sx_beq h2]) h) h) h) h
theorem sx_fnd_ok : ∀ {lst : List sx_I} {pc : Nat} {en : sx_I}, sx_fnd lst pc = some en → en ∈ lst ∧ en.1 = pc
  | [], _, _, h => by cases h
  | z :: t, pc, en, h => by
    have h : sx_if (Nat.beq z.1 pc) (some z) (sx_fnd t pc) = some en := h
    cases h1 : Nat.beq z.1 pc with
    | true =>
      rw [h1, sx_if_t] at h
      cases h
      exact ⟨List.mem_cons_self, sx_beq h1⟩
    | false =>
      rw [h1, sx_if_f] at h
      obtain ⟨q1, q2⟩ := sx_fnd_ok h
      exact ⟨List.mem_cons_of_mem _ q1, q2⟩
theorem sx_St.nil' (h : sx_St b ad rs [] st) : st = [] := h.nil
theorem sx_res_ok {ty i j k n : Nat} {F : Nat → Nat → sx_R} (hr : sx_res ty i j k n L h F = some outs) : ∃ c0 j0, F c0 j0 = some outs := by
  unfold sx_res at hr
  cases h0 : Nat.beq ty 0 with
  | true => rw [h0, sx_if_t, sx_fo_eq] at hr; exact ⟨_, _, hr⟩
  | false =>
    rw [h0, sx_if_f, sx_fo_eq] at hr
    obtain ⟨-, hr⟩ := sx_if_ok hr
    cases h1 : Nat.beq ty 1 with
    | true => rw [h1, sx_if_t, sx_fo_eq] at hr; exact ⟨_, _, hr⟩
    | false =>
      rw [h1, sx_if_f, sx_rdK_eq, sx_fo_eq] at hr
      obtain ⟨-, hr⟩ := sx_if_ok hr
      rw [sx_fo_eq] at hr
      exact ⟨_, _, hr⟩
theorem sx_sBck (IH : sx_Ok N ih) (hC : sx_Cx p e R s m meth c D K b N xs A mi d q) (hA : sx_At R s c D K b N xs A ad rs cells slots locs L S h n sy cs ss ls st H) (hL : sx_Ls p l e R s m args below meth c D K b N xs A Q ad rs lst) (hQ : ∀ o ∈ outs, ∀ t, sx_En R s below D K b A ad rs o t → Q t)
    {L0 S0 : List Nat} {h0 : sx_H} {n0 : Nat} {sy0 : sx_Y} {k0 r : Nat} {pl : List (Nat × Nat × Nat)} {cs0 ss0 : Nat} (hmem : (pc, L0, S0, h0, n0, sy0, k0, r, pl, cs0, ss0) ∈ lst) (hr : sx_bck (pc, L0, S0, h0, n0, sy0, k0, r, pl, cs0, ss0) L S h n sy cs ss = some outs) : W p l e R s m args below meth c H locs cells slots Q (F0 m pc ls st) := by
  obtain ⟨-, hx, -, hb, hml, -, -, -, hown, -, hT, -⟩ := id hC
  obtain ⟨hLc, hSt, hrest⟩ := id hA
  obtain ⟨rp, z1, z2, yp, c0, j0, l1, u1, l2, u2, rfl, q2, q3, q4, rfl, q6, q7, q8, q9, q10⟩ := hL _ _ _ _ _ _ _ _ _ _ _ hmem
  have hr : sx_if (sx_and (sx_rk sy (sx_ln L r) (sx_ln L0 r)) (sx_and (Nat.beq n n0) (sx_and (Nat.beq cs cs0) (Nat.beq ss ss0))))
      (sx_nil' S (Option.rec none (fun e1 => Option.rec none (fun e2 => sx_pla c0 j0 (Nat.add (Nat.mul 8 (Nat.succ k0)) 1) e2.1 e2.2.1 r (Nat.add (Nat.mul 8 k0) 1) e1.1 e1.2.1 n sy L h (fun L h => sx_if (sx_and (sx_lle L L0) (sx_heq h h0)) (some []) none)) (sx_nth (yp ++ [(l1, u1, 0, 0), (l2, u2, 0, 0)]) (Nat.succ k0))) (sx_nth (yp ++ [(l1, u1, 0, 0), (l2, u2, 0, 0)]) k0))) none = some outs := hr
  obtain ⟨hc, hv⟩ := sx_if_ok hr
  clear hr
  obtain ⟨hrk, hc⟩ := sx_and_ok hc
  obtain ⟨e1, hc⟩ := sx_and_ok hc
  obtain ⟨e2, e3⟩ := sx_and_ok hc
  have e1 := sx_beq e1
  have e2 := sx_beq e2
  have e3 := sx_beq e3
  subst e1 e2 e3
  cases S with
  | cons _ _ => cases hv
  | nil =>
  have hst := hSt.nil
  subst hst
  have hyl : yp.length = k0 := by rw [← q4.1]; exact q2
  have hv : (Option.rec none (fun e1 => Option.rec none (fun e2 => sx_pla c0 j0 (Nat.add (Nat.mul 8 (Nat.succ k0)) 1) e2.1 e2.2.1 r (Nat.add (Nat.mul 8 k0) 1) e1.1 e1.2.1 n sy L h (fun L h => sx_if (sx_and (sx_lle L L0) (sx_heq h h0)) (some []) none)) (sx_nth (yp ++ [(l1, u1, 0, 0), (l2, u2, 0, 0)]) (Nat.succ k0))) (sx_nth (yp ++ [(l1, u1, 0, 0), (l2, u2, 0, 0)]) k0) : sx_R) = some outs := hv
  rw [sx_nth_eq, sx_nth_eq] at hv
  have g1 : (yp ++ [(l1, u1, 0, 0), (l2, u2, 0, 0)])[k0]? = some (l1, u1, 0, 0) := by rw [List.getElem?_append_right (by omega), hyl, Nat.sub_self]; rfl
  have g2 : (yp ++ [(l1, u1, 0, 0), (l2, u2, 0, 0)])[Nat.succ k0]? = some (l2, u2, 0, 0) := by rw [List.getElem?_append_right (by omega), hyl, show Nat.succ k0 - k0 = 1 by omega]; rfl
  rw [g1, g2] at hv
  obtain ⟨hY, hG, hS, hxs, hr1, hr2, hr3⟩ := id hrest
  obtain ⟨y1, y2, h', hr, p1, p2, p3, p4, p5, p6, -, p8, p9, p10, p11⟩ := sx_pla_ok hv hLc hY hG
  obtain ⟨hc, -⟩ := sx_if_ok hr
  obtain ⟨hl, hh⟩ := sx_and_ok hc
  have hh := sx_heq_ok hh
  subst hh
  obtain ⟨w1, w2⟩ := sx_lle_ok hl
  have same : ∀ k, k < k0 → (rp ++ [y1, y2])[k]? = rs[k]? := fun k hk => by
    rw [List.getElem?_append_left (by omega), ← List.getElem?_append_left (l₂ := [z1, z2]) (by omega), List.getElem?_eq_getElem (by simp; omega)]
    exact (sx_pre q3 (List.getElem?_eq_getElem (by simp; omega))).symm
  have hk1 : (rp ++ [y1, y2])[(8 * k0 + 1) / 8]? = some y1 := by rw [show (8 * k0 + 1) / 8 = k0 by omega, List.getElem?_append_right (by omega), q2, Nat.sub_self]; rfl
  have hk2 : (rp ++ [y1, y2])[(8 * (k0 + 1) + 1) / 8]? = some y2 := by rw [show (8 * (k0 + 1) + 1) / 8 = k0 + 1 by omega, List.getElem?_append_right (by omega), q2, show k0 + 1 - k0 = 1 by omega]; rfl
  have hYY : sx_Yok (rp ++ [y1, y2]) (yp ++ [(l1, u1, 0, 0), (l2, u2, 0, 0)]) := by
    have := (q4.fr (pr := 0) (off := 0) p3 p4 (fun h => absurd rfl h)).fr (pr := 0) (off := 0) p5 p6 (fun h => absurd rfl h)
    rw [List.append_assoc, List.append_assoc] at this
    exact this
  refine q10 ad y1 y2 ls [] H locs cells slots List.prefix_rfl ⟨p10 _ L0 k0 (by rw [w1, List.length_set]) w2 (by show (8 * k0 + 1) % 8 = 1; omega) hk1 q8 same, trivial, hYY, p11 _ k0 (by show (8 * (k0 + 1) + 1) % 8 = 1; omega) hk2 q9 same, hS, fun k hk => ?_, hr1, hr2, by rw [w1, List.length_set]; exact hr3⟩ ?_
  · have hkl := (List.getElem?_eq_some_iff.mp (q6 k hk)).1
    rw [List.getElem?_append_left hkl]
    exact q6 k hk
  · unfold sx_rk at hrk
    obtain ⟨t1, hrk⟩ := sx_and_ok hrk
    obtain ⟨-, hrk⟩ := sx_and_ok hrk
    obtain ⟨zz, hzz, hzy⟩ := p8.t1 (sx_beq t1)
    cases hzy
    obtain ⟨en, hen, -, -, en3⟩ := hY.at hzz
    rw [sx_nth_eq, show sy[sx_pl (sx_ln L r)]? = some en from hen] at hrk
    obtain ⟨t2, t3⟩ := sx_and_ok hrk
    have t2 : en.2.2.1 = Nat.succ (sx_pl (sx_ln L0 r)) := sx_beq t2
    have t3 : 0 < en.2.2.2 := sx_blt t3
    rw [sx_ln_eq, List.getD_eq_getElem?_getD, q7] at t2
    have t2 : en.2.2.1 = Nat.succ ((8 * k0 + 1) / 8) := t2
    obtain ⟨yy, hyy, hlt⟩ := en3.1 (by omega)
    rw [t2, Nat.succ_sub_one, show (8 * k0 + 1) / 8 = k0 by omega] at hyy
    have : rs[k0]? = some z1 := sx_pre q3 (by rw [List.getElem?_append_right (by omega), q2, Nat.sub_self]; rfl)
    cases this.symm.trans hyy
    omega
theorem sx_sOpen (IH : sx_Ok N ih) (hC : sx_Cx p e R s m meth c D K b N xs A mi d q) (hA : sx_At R s c D K b N xs A ad rs cells slots locs L S h n sy cs ss ls st H) (hL : sx_Ls p l e R s m args below meth c D K b N xs A Q ad rs lst) (hQ : ∀ o ∈ outs, ∀ t, sx_En R s below D K b A ad rs o t → Q t)
    {r : Nat} {e1 e2 : Nat × Nat × Nat × Nat × Nat × Nat} (hr : sx_open ih d mi (sx_mt mi).1 lst pc L S h n sy cs ss r e1 e2 = some outs) : W p l e R s m args below meth c H locs cells slots Q (F0 m pc ls st) := by
  obtain ⟨-, hx, -, hb, hml, -, -, -, hown, -, hT, -⟩ := id hC
  obtain ⟨hLc, hSt, hrest⟩ := id hA
  unfold sx_open at hr
  rw [sx_fo_eq] at hr
  cases S with
  | cons _ _ => cases hr
  | nil =>
  have hst := hSt.nil
  subst hst
  rw [show ∀ x : sx_R, sx_nil' [] x = x from fun _ => rfl] at hr
  obtain ⟨c0, j0, hr⟩ := sx_res_ok hr
  obtain ⟨hY, hG, hS, hxs, hr1, hr2, hr3⟩ := id hrest
  obtain ⟨z1, z2, h', hr, p1, p2, p3, p4, p5, p6, -, p8, p9, p10, p11⟩ := sx_pla_ok hr hLc hY hG
  simp only [sx_fo_eq] at hr
  have hlen : sy.length = rs.length := hY.1.symm
  rw [hlen] at hr p2 p10 p11
  have fL : ∀ i v, (L.set r (8 * rs.length + 1))[i]? = some v → i ≠ r → v % 8 = 1 → v / 8 < rs.length := fun i v hi hir h8 => by
    rw [List.getElem?_set_ne (fun q => hir q.symm)] at hi
    obtain ⟨x, -, hv⟩ := hLc.2.2 i v hi (fun q => by omega)
    exact sx_Vsy hv h8
  have fH : ∀ k j, k < n → j < (sx_rd h' k).1 / 256 → ¬ (k = c0 ∧ j = j0) → sx_get (sx_rd h' k).2 j % 8 = 1 → sx_get (sx_rd h' k).2 j / 8 < rs.length := fun k j hk hj hne h8 => by
    obtain ⟨t1, t2⟩ := p9 k j hk hj hne
    rw [t2] at h8 ⊢
    obtain ⟨ws, -, -, g3, g4, -, g6⟩ := hG
    have hkl : k < ws.length := by rw [← List.length_map (f := Prod.fst), g3, g4]; exact hk
    exact sx_Esy (g6 k _ (List.getElem?_eq_getElem hkl)) t1 h8
  have same : ∀ y1 y2 : Int32, ∀ k, k < rs.length → (rs ++ [y1, y2])[k]? = rs[k]? := fun y1 y2 k hk => List.getElem?_append_left hk
  have hk1 : ∀ y1 y2 : Int32, (rs ++ [y1, y2])[(8 * rs.length + 1) / 8]? = some y1 := fun y1 y2 => by rw [show (8 * rs.length + 1) / 8 = rs.length by omega, List.getElem?_append_right (by omega), Nat.sub_self]; rfl
  have hk2 : ∀ y1 y2 : Int32, (rs ++ [y1, y2])[(8 * (rs.length + 1) + 1) / 8]? = some y2 := fun y1 y2 => by rw [show (8 * (rs.length + 1) + 1) / 8 = rs.length + 1 by omega, List.getElem?_append_right (by omega), show rs.length + 1 - rs.length = 1 by omega]; rfl
  have main : ∀ (mm : Nat) (ad' : List Nat) (y1 y2 : Int32) (ls' : Array Slot) (st' : List Value) (H' : Heap) (locs' : List Loc) (cells' slots' : Nat), 4294967296 - sx_b y1 ≤ mm → ad <+: ad' → sx_At R s c D K b N xs A ad' (rs ++ [y1, y2]) cells' slots' locs' (L.set r (8 * rs.length + 1)) [] h' n (sy ++ [(e1.2.2.2.2.1, e1.2.2.2.2.2, 0, 0), (e2.2.2.2.2.1, e2.2.2.2.2.2, 0, 0)]) cs ss ls' st' H' →
      W p l e R s m args below meth c H' locs' cells' slots' Q (F0 m pc ls' st') := by
    intro mm
    induction mm with
    | zero =>
      intro ad' y1 y2 ls' st' H' locs' cells' slots' hm ha hat
      have := sx_b_lt y1
      omega
    | succ mm ihm =>
      intro ad' y1 y2 ls' st' H' locs' cells' slots' hm ha hat
      have hpr : rs <+: rs ++ [y1, y2] := List.prefix_append _ _
      refine IH d mi _ true pc _ [] h' n _ cs ss outs hr p l e R s m args below meth c D K b xs A q ad' (rs ++ [y1, y2]) ls' st' H' locs' cells' slots' Q hC hat ?_ (fun o ho t ht => hQ o ho t (ht.mono ha hpr))
      intro pc0 L0 S0 h0 n0 sy0 k0 r0 pl cs0 ss0 hi
      rcases List.mem_cons.mp hi with hi | hi
      · cases hi
        refine ⟨rs, y1, y2, sy, c0, j0, _, _, _, _, rfl, rfl, List.prefix_rfl, hY, rfl, hxs, by rw [List.getElem?_set_self p1]; rfl, fL, fH, fun ad2 x1 x2 ls2 st2 H2 locs2 cells2 slots2 a1 a2 a3 => ihm ad2 x1 x2 ls2 st2 H2 locs2 cells2 slots2 (by have := sx_b_lt x1; have := sx_b_lt y1; omega) (ha.trans a1) a2⟩
      · exact (hL.mono ha hpr) pc0 L0 S0 h0 n0 sy0 k0 r0 pl cs0 ss0 hi
  have hYY : sx_Yok (rs ++ [z1, z2]) (sy ++ [(e1.2.2.2.2.1, e1.2.2.2.2.2, 0, 0), (e2.2.2.2.2.1, e2.2.2.2.2.2, 0, 0)]) := by
    have := (hY.fr (pr := 0) (off := 0) p3 p4 (fun h => absurd rfl h)).fr (pr := 0) (off := 0) p5 p6 (fun h => absurd rfl h)
    rw [List.append_assoc, List.append_assoc] at this
    exact this
  refine main _ ad z1 z2 ls [] H locs cells slots (Nat.le_refl _) List.prefix_rfl ⟨p10 _ _ rs.length (by rw [List.length_set]) (fun i w hi _ => hi) (by show (8 * rs.length + 1) % 8 = 1; omega) (hk1 z1 z2) fL (same z1 z2), trivial, hYY, p11 _ rs.length (by show (8 * (rs.length + 1) + 1) % 8 = 1; omega) (hk2 z1 z2) fH (same z1 z2), hS, fun k hk => ?_, hr1, hr2, by rw [List.length_set]; exact hr3⟩
  rw [List.getElem?_append_left (List.getElem?_eq_some_iff.mp (hxs k hk)).1]
  exact hxs k hk
theorem sx_sHead (IH : sx_Ok N ih) (hC : sx_Cx p e R s m meth c D K b N xs A mi d q) (hA : sx_At R s c D K b N xs A ad rs cells slots locs L S h n sy cs ss ls st H) (hL : sx_Ls p l e R s m args below meth c D K b N xs A Q ad rs lst) (hQ : ∀ o ∈ outs, ∀ t, sx_En R s below D K b A ad rs o t → Q t)
    (hr : sx_head ih d mi (sx_mt mi).1 lst pc L S h n sy cs ss = some outs) : W p l e R s m args below meth c H locs cells slots Q (F0 m pc ls st) := by
  obtain ⟨-, hx, -, hb, hml, -, -, -, hown, -, hT, -⟩ := id hC
  obtain ⟨hLc, hSt, hrest⟩ := id hA
  unfold sx_head at hr
  cases hf : sx_fnd lst pc with
  | some en =>
    rw [hf] at hr
    obtain ⟨h1, h2⟩ := sx_fnd_ok hf
    obtain ⟨pc0, L0, S0, h0, n0, sy0, k0, r0, pl, cs0, ss0⟩ := en
    have h2 : pc0 = pc := h2
    subst h2
    exact sx_sBck IH hC hA hL hQ h1 hr
  | none =>
    rw [hf] at hr
    cases hz : sx_fiv sx_ivs mi pc with
    | none => rw [hz] at hr; cases hr
    | some z =>
    rw [hz] at hr
    obtain ⟨z1, z2⟩ := z
    cases z2 with
    | nil => cases hr
    | cons e1 t =>
      cases t with
      | nil => cases hr
      | cons e2 t => exact sx_sOpen IH hC hA hL hQ hr
end SXHead
end
section
/-! sx: the executor is right -/
section SXSound
variable {N : Nat} {ih : sx_ih} {w d mi pc n cs ss : Nat} {lst : List sx_I} {L S : List Nat} {h : sx_H} {sy : sx_Y} {outs : List sx_O}
variable {p : Program} {l : Launch} {e : Env} {R : Room} {s : State} {m : MethodId} {args : Array Value} {below : List Frame} {meth : Method} {c : Code} {D : va_G} {K : ClassId → FieldType → Prop} {b : Nat → Nat} {xs : Nat → Int32} {A : Nat → Prop} {q : sx_M}
variable {ad : List Nat} {rs : List Int32} {ls : Array Slot} {st : List Value} {H : Heap} {locs : List Loc} {cells slots : Nat} {Q : State → Prop}
theorem sx_wd1 (h : sx_wd q pc w = true) (ho : sx_op w = 1) : sx_k1 q pc w = true := by
  unfold sx_wd at h
  dsimp only at h
  rw [ho] at h
  exact h
theorem sx_wd2 (h : sx_wd q pc w = true) (ho : sx_op w = 2) : sx_k2 q pc w = true := by
  unfold sx_wd at h
  dsimp only at h
  rw [ho] at h
  exact h
theorem sx_wd3 (h : sx_wd q pc w = true) (ho : sx_op w = 3) : sx_k3 q pc w = true := by
  unfold sx_wd at h
  dsimp only at h
  rw [ho] at h
  exact h
theorem sx_wd4 (h : sx_wd q pc w = true) (ho : sx_op w = 4) : sx_k4 q pc w = true := by
  unfold sx_wd at h
  dsimp only at h
  rw [ho] at h
  exact h
theorem sx_wd5 (h : sx_wd q pc w = true) (ho : sx_op w = 5) : sx_k5 q pc w = true := by
  unfold sx_wd at h
  dsimp only at h
  rw [ho] at h
  exact h
theorem sx_wd6 (h : sx_wd q pc w = true) (ho : sx_op w = 6) : sx_k6 q pc w = true := by
  unfold sx_wd at h
  dsimp only at h
  rw [ho] at h
  exact h
theorem sx_wd7 (h : sx_wd q pc w = true) (ho : sx_op w = 7) : sx_k7 q pc w = true := by
  unfold sx_wd at h
  dsimp only at h
  rw [ho] at h
  exact h
theorem sx_wd8 (h : sx_wd q pc w = true) (ho : sx_op w = 8) : sx_k8 q pc w = true := by
  unfold sx_wd at h
  dsimp only at h
  rw [ho] at h
  exact h
theorem sx_wd9 (h : sx_wd q pc w = true) (ho : sx_op w = 9) : sx_k9 q pc w = true := by
  unfold sx_wd at h
  dsimp only at h
  rw [ho] at h
  exact h
theorem sx_wd10 (h : sx_wd q pc w = true) (ho : sx_op w = 10) : sx_k10 q pc w = true := by
  unfold sx_wd at h
  dsimp only at h
  rw [ho] at h
  exact h
theorem sx_wd11 (h : sx_wd q pc w = true) (ho : sx_op w = 11) : sx_dc q pc .iaload 1 = true := by
  unfold sx_wd at h
  dsimp only at h
  rw [ho] at h
  exact h
theorem sx_wd12 (h : sx_wd q pc w = true) (ho : sx_op w = 12) : sx_dc q pc .iastore 1 = true := by
  unfold sx_wd at h
  dsimp only at h
  rw [ho] at h
  exact h
theorem sx_wd13 (h : sx_wd q pc w = true) (ho : sx_op w = 13) : sx_dc q pc .laload 1 = true := by
  unfold sx_wd at h
  dsimp only at h
  rw [ho] at h
  exact h
theorem sx_wd14 (h : sx_wd q pc w = true) (ho : sx_op w = 14) : sx_dc q pc .lastore 1 = true := by
  unfold sx_wd at h
  dsimp only at h
  rw [ho] at h
  exact h
theorem sx_wd15 (h : sx_wd q pc w = true) (ho : sx_op w = 15) : sx_dc q pc .aaload 1 = true := by
  unfold sx_wd at h
  dsimp only at h
  rw [ho] at h
  exact h
theorem sx_wd16 (h : sx_wd q pc w = true) (ho : sx_op w = 16) : sx_dc q pc .aastore 1 = true := by
  unfold sx_wd at h
  dsimp only at h
  rw [ho] at h
  exact h
theorem sx_wd17 (h : sx_wd q pc w = true) (ho : sx_op w = 17) : sx_dc q pc .arraylength 1 = true := by
  unfold sx_wd at h
  dsimp only at h
  rw [ho] at h
  exact h
theorem sx_wd18 (h : sx_wd q pc w = true) (ho : sx_op w = 18) : sx_k18 q pc w = true := by
  unfold sx_wd at h
  dsimp only at h
  rw [ho] at h
  exact h
theorem sx_wd19 (h : sx_wd q pc w = true) (ho : sx_op w = 19) : sx_k19 q pc w = true := by
  unfold sx_wd at h
  dsimp only at h
  rw [ho] at h
  exact h
theorem sx_wd20 (h : sx_wd q pc w = true) (ho : sx_op w = 20) : sx_k20 q pc w = true := by
  unfold sx_wd at h
  dsimp only at h
  rw [ho] at h
  exact h
theorem sx_wd21 (h : sx_wd q pc w = true) (ho : sx_op w = 21) : sx_k21 q pc w = true := by
  unfold sx_wd at h
  dsimp only at h
  rw [ho] at h
  exact h
theorem sx_wd22 (h : sx_wd q pc w = true) (ho : sx_op w = 22) : sx_k22 q pc w = true := by
  unfold sx_wd at h
  dsimp only at h
  rw [ho] at h
  exact h
theorem sx_wd23 (h : sx_wd q pc w = true) (ho : sx_op w = 23) : sx_k23 q pc w = true := by
  unfold sx_wd at h
  dsimp only at h
  rw [ho] at h
  exact h
theorem sx_wd24 (h : sx_wd q pc w = true) (ho : sx_op w = 24) : sx_k24 q pc w = true := by
  unfold sx_wd at h
  dsimp only at h
  rw [ho] at h
  exact h
theorem sx_wd25 (h : sx_wd q pc w = true) (ho : sx_op w = 25) : sx_k25 q pc w = true := by
  unfold sx_wd at h
  dsimp only at h
  rw [ho] at h
  exact h
theorem sx_wd26 (h : sx_wd q pc w = true) (ho : sx_op w = 26) : sx_k26 q pc w = true := by
  unfold sx_wd at h
  dsimp only at h
  rw [ho] at h
  exact h
theorem sx_wd27 (h : sx_wd q pc w = true) (ho : sx_op w = 27) : sx_k27 q pc = true := by
  unfold sx_wd at h
  dsimp only at h
  rw [ho] at h
  exact h
theorem sx_wd28 (h : sx_wd q pc w = true) (ho : sx_op w = 28) : sx_k28 q pc w = true := by
  unfold sx_wd at h
  dsimp only at h
  rw [ho] at h
  exact h
theorem sx_wd29 (h : sx_wd q pc w = true) (ho : sx_op w = 29) : sx_dc q pc .dup 1 = true := by
  unfold sx_wd at h
  dsimp only at h
  rw [ho] at h
  exact h
theorem sx_wd30 (h : sx_wd q pc w = true) (ho : sx_op w = 30) : sx_dc q pc .dup2 1 = true := by
  unfold sx_wd at h
  dsimp only at h
  rw [ho] at h
  exact h
theorem sx_wd31 (h : sx_wd q pc w = true) (ho : sx_op w = 31) : sx_dc q pc .pop 1 = true := by
  unfold sx_wd at h
  dsimp only at h
  rw [ho] at h
  exact h
theorem sx_wd32 (h : sx_wd q pc w = true) (ho : sx_op w = 32) : sx_k32 q pc w = true := by
  unfold sx_wd at h
  dsimp only at h
  rw [ho] at h
  exact h
theorem sx_wd35 (h : sx_wd q pc w = true) (ho : sx_op w = 35) : sx_k35 q pc w = true := by
  unfold sx_wd at h
  dsimp only at h
  rw [ho] at h
  exact h
theorem sx_wd37 (h : sx_wd q pc w = true) (ho : sx_op w = 37) : sx_k37 q pc w = true := by
  unfold sx_wd at h
  dsimp only at h
  rw [ho] at h
  exact h
theorem sx_wd33 (h : sx_wd q pc w = true) (ho : sx_op w = 33) : sx_k33 q pc w = true := by
  unfold sx_wd at h
  dsimp only at h
  rw [ho] at h
  exact h
theorem sx_wd34 (h : sx_wd q pc w = true) (ho : sx_op w = 34) : sx_k34 q pc w = true := by
  unfold sx_wd at h
  dsimp only at h
  rw [ho] at h
  exact h
theorem sx_wd36 (h : sx_wd q pc w = true) (ho : sx_op w = 36) : sx_dc q pc .baload 1 = true := by
  unfold sx_wd at h
  dsimp only at h
  rw [ho] at h
  exact h
theorem sx_wd38 (h : sx_wd q pc w = true) (ho : sx_op w = 38) : sx_k38 q pc w = true := by
  unfold sx_wd at h
  dsimp only at h
  rw [ho] at h
  exact h
theorem sx_wd39 (h : sx_wd q pc w = true) (ho : sx_op w = 39) : sx_k39 q pc w = true := by
  unfold sx_wd at h
  dsimp only at h
  rw [ho] at h
  exact h
theorem sx_wd40 (h : sx_wd q pc w = true) (ho : sx_op w = 40) : sx_k40 q pc w = true := by
  unfold sx_wd at h
  dsimp only at h
  rw [ho] at h
  exact h
theorem sx_wd41 (h : sx_wd q pc w = true) (ho : sx_op w = 41) : sx_k41 q pc w = true := by
  unfold sx_wd at h
  dsimp only at h
  rw [ho] at h
  exact h
theorem sx_wd42 (h : sx_wd q pc w = true) (ho : sx_op w = 42) : sx_dc q pc .i2c 1 = true := by
  unfold sx_wd at h
  dsimp only at h
  rw [ho] at h
  exact h
theorem sx_wd43 (h : sx_wd q pc w = true) (ho : sx_op w = 43) : sx_k43 q pc w = true := by
  unfold sx_wd at h
  dsimp only at h
  rw [ho] at h
  exact h
theorem sx_hid0 (hM : sx_Mok mi q) (h0 : sx_ihd (sx_mt mi).2 = 0) : q.2.2.2.2 = [] := by
  have h := hM.2.2.2.2.1
  unfold sx_hB at h
  rw [if_pos h0] at h
  exact of_decide_eq_true h
theorem sx_sBody (IH : sx_Ok N ih) (hC : sx_Cx p e R s m meth c D K b N xs A mi d q) (hA : sx_At R s c D K b N xs A ad rs cells slots locs L S h n sy cs ss ls st H) (hL : sx_Ls p l e R s m args below meth c D K b N xs A Q ad rs lst) (hQ : ∀ o ∈ outs, ∀ t, sx_En R s below D K b A ad rs o t → Q t)
    (hMO : sx_MO) (hM : sx_Mok mi q) (hN31 : N < 2 ^ 31) (hw : sx_op w ≠ 0 → sx_wd q pc w = true) (hr : sx_body ih N w d mi (sx_mt mi).1 lst pc L S h n sy cs ss = some outs) : W p l e R s m args below meth c H locs cells slots Q (F0 m pc ls st) := by
  unfold sx_body at hr
  rw [sx_fo_eq] at hr
  cases h2 : Nat.beq (sx_op w) 2 with
  | true =>
    rw [h2, sx_if_t] at hr
    have hw := hw (by rw [sx_beq h2]; decide)
    have hk := sx_wd2 hw (sx_beq h2)
    exact sx_sLoad IH hC hA hL hQ hk hr
  | false =>
  rw [h2, sx_if_f] at hr
  cases h1 : Nat.beq (sx_op w) 1 with
  | true =>
    rw [h1, sx_if_t] at hr
    have hw := hw (by rw [sx_beq h1]; decide)
    have hk := sx_wd1 hw (sx_beq h1)
    exact sx_sConst IH hC hA hL hQ hk hr
  | false =>
  rw [h1, sx_if_f] at hr
  cases h9 : Nat.beq (sx_op w) 9 with
  | true =>
    rw [h9, sx_if_t] at hr
    have hw := hw (by rw [sx_beq h9]; decide)
    have hk := sx_wd9 hw (sx_beq h9)
    exact sx_sGet IH hC hA hL hQ hk hr
  | false =>
  rw [h9, sx_if_f] at hr
  cases h7 : Nat.beq (sx_op w) 7 with
  | true =>
    rw [h7, sx_if_t] at hr
    have hw := hw (by rw [sx_beq h7]; decide)
    have hk := sx_wd7 hw (sx_beq h7)
    exact sx_sIcmp IH hC hA hL hQ hk hr
  | false =>
  rw [h7, sx_if_f] at hr
  cases h6 : Nat.beq (sx_op w) 6 with
  | true =>
    rw [h6, sx_if_t] at hr
    have hw := hw (by rw [sx_beq h6]; decide)
    have hk := sx_wd6 hw (sx_beq h6)
    exact sx_sIf IH hC hA hL hQ hk hr
  | false =>
  rw [h6, sx_if_f] at hr
  cases h11 : Nat.beq (sx_op w) 11 with
  | true =>
    rw [h11, sx_if_t] at hr
    have hw := hw (by rw [sx_beq h11]; decide)
    have hk := sx_wd11 hw (sx_beq h11)
    exact sx_sIaldX IH hC hA hL hQ hN31 hk hr
  | false =>
  rw [h11, sx_if_f] at hr
  cases h8 : Nat.beq (sx_op w) 8 with
  | true =>
    rw [h8, sx_if_t] at hr
    have hw := hw (by rw [sx_beq h8]; decide)
    have hk := sx_wd8 hw (sx_beq h8)
    exact sx_sGoto IH hC hA hL hQ hk hr
  | false =>
  rw [h8, sx_if_f] at hr
  cases h5 : Nat.beq (sx_op w) 5 with
  | true =>
    rw [h5, sx_if_t] at hr
    have hw := hw (by rw [sx_beq h5]; decide)
    have hk := sx_wd5 hw (sx_beq h5)
    exact sx_sIinc IH hC hA hL hQ hk hr
  | false =>
  rw [h5, sx_if_f] at hr
  cases h3 : Nat.beq (sx_op w) 3 with
  | true =>
    rw [h3, sx_if_t] at hr
    have hw := hw (by rw [sx_beq h3]; decide)
    have hk := sx_wd3 hw (sx_beq h3)
    exact sx_sStore IH hC hA hL hQ hk hr
  | false =>
  rw [h3, sx_if_f] at hr
  cases h26 : Nat.beq (sx_op w) 26 with
  | true =>
    rw [h26, sx_if_t] at hr
    have hw := hw (by rw [sx_beq h26]; decide)
    have hk := sx_wd26 hw (sx_beq h26)
    exact sx_sRet IH hC hA hL hQ hk hr
  | false =>
  rw [h26, sx_if_f] at hr
  cases h21 : Nat.beq (sx_op w) 21 with
  | true =>
    rw [h21, sx_if_t] at hr
    have hw := hw (by rw [sx_beq h21]; decide)
    have hk := sx_wd21 hw (sx_beq h21)
    exact sx_sInvV IH hC hA hL hQ hMO hM hk hr
  | false =>
  rw [h21, sx_if_f] at hr
  cases h4 : Nat.beq (sx_op w) 4 with
  | true =>
    rw [h4, sx_if_t] at hr
    have hw := hw (by rw [sx_beq h4]; decide)
    have hk := sx_wd4 hw (sx_beq h4)
    exact sx_sBin IH hC hA hL hQ hk hr
  | false =>
  rw [h4, sx_if_f] at hr
  cases h12 : Nat.beq (sx_op w) 12 with
  | true =>
    rw [h12, sx_if_t] at hr
    have hw := hw (by rw [sx_beq h12]; decide)
    have hk := sx_wd12 hw (sx_beq h12)
    exact sx_sIast IH hC hA hL hQ hk hr
  | false =>
  rw [h12, sx_if_f] at hr
  cases h22 : Nat.beq (sx_op w) 22 with
  | true =>
    rw [h22, sx_if_t] at hr
    have hw := hw (by rw [sx_beq h22]; decide)
    have hk := sx_wd22 hw (sx_beq h22)
    exact sx_sInvS IH hC hA hL hQ hMO hM hk hr
  | false =>
  rw [h22, sx_if_f] at hr
  cases h27 : Nat.beq (sx_op w) 27 with
  | true =>
    rw [h27, sx_if_t] at hr
    have hw := hw (by rw [sx_beq h27]; decide)
    have hk := sx_wd27 hw (sx_beq h27)
    exact sx_sVret IH hC hA hL hQ hk hr
  | false =>
  rw [h27, sx_if_f] at hr
  cases h10 : Nat.beq (sx_op w) 10 with
  | true =>
    rw [h10, sx_if_t] at hr
    have hw := hw (by rw [sx_beq h10]; decide)
    have hk := sx_wd10 hw (sx_beq h10)
    exact sx_sPut IH hC hA hL hQ hk hr
  | false =>
  rw [h10, sx_if_f] at hr
  cases h29 : Nat.beq (sx_op w) 29 with
  | true =>
    rw [h29, sx_if_t] at hr
    have hw := hw (by rw [sx_beq h29]; decide)
    have hk := sx_wd29 hw (sx_beq h29)
    exact sx_sDup IH hC hA hL hQ hk hr
  | false =>
  rw [h29, sx_if_f] at hr
  cases h30 : Nat.beq (sx_op w) 30 with
  | true =>
    rw [h30, sx_if_t] at hr
    have hw := hw (by rw [sx_beq h30]; decide)
    have hk := sx_wd30 hw (sx_beq h30)
    exact sx_sDup2 IH hC hA hL hQ hk hr
  | false =>
  rw [h30, sx_if_f] at hr
  cases h31 : Nat.beq (sx_op w) 31 with
  | true =>
    rw [h31, sx_if_t] at hr
    have hw := hw (by rw [sx_beq h31]; decide)
    have hk := sx_wd31 hw (sx_beq h31)
    exact sx_sPop IH hC hA hL hQ hk hr
  | false =>
  rw [h31, sx_if_f] at hr
  cases h13 : Nat.beq (sx_op w) 13 with
  | true =>
    rw [h13, sx_if_t] at hr
    have hw := hw (by rw [sx_beq h13]; decide)
    have hk := sx_wd13 hw (sx_beq h13)
    exact sx_sLald IH hC hA hL hQ hk hr
  | false =>
  rw [h13, sx_if_f] at hr
  cases h14 : Nat.beq (sx_op w) 14 with
  | true =>
    rw [h14, sx_if_t] at hr
    have hw := hw (by rw [sx_beq h14]; decide)
    have hk := sx_wd14 hw (sx_beq h14)
    exact sx_sLast IH hC hA hL hQ hk hr
  | false =>
  rw [h14, sx_if_f] at hr
  cases h15 : Nat.beq (sx_op w) 15 with
  | true =>
    rw [h15, sx_if_t] at hr
    have hw := hw (by rw [sx_beq h15]; decide)
    have hk := sx_wd15 hw (sx_beq h15)
    exact sx_sAald IH hC hA hL hQ hk hr
  | false =>
  rw [h15, sx_if_f] at hr
  cases h16 : Nat.beq (sx_op w) 16 with
  | true =>
    rw [h16, sx_if_t] at hr
    have hw := hw (by rw [sx_beq h16]; decide)
    have hk := sx_wd16 hw (sx_beq h16)
    exact sx_sAast IH hC hA hL hQ hk hr
  | false =>
  rw [h16, sx_if_f] at hr
  cases h17 : Nat.beq (sx_op w) 17 with
  | true =>
    rw [h17, sx_if_t] at hr
    have hw := hw (by rw [sx_beq h17]; decide)
    have hk := sx_wd17 hw (sx_beq h17)
    exact sx_sAlenX IH hC hA hL hQ hN31 hk hr
  | false =>
  rw [h17, sx_if_f] at hr
  cases h18 : Nat.beq (sx_op w) 18 with
  | true =>
    rw [h18, sx_if_t] at hr
    have hw := hw (by rw [sx_beq h18]; decide)
    have hk := sx_wd18 hw (sx_beq h18)
    exact sx_sNew IH hC hA hL hQ hk hr
  | false =>
  rw [h18, sx_if_f] at hr
  cases h19 : Nat.beq (sx_op w) 19 with
  | true =>
    rw [h19, sx_if_t] at hr
    have hw := hw (by rw [sx_beq h19]; decide)
    have hk := sx_wd19 hw (sx_beq h19)
    unfold sx_k19 at hk
    by_cases ha : sx_wa w = 0
    · rw [if_pos ha] at hk
      rw [ha] at hr
      exact sx_sNewI IH hC hA hL hQ hk hr
    · rw [if_neg ha] at hk
      simp only [Bool.and_eq_true, decide_eq_true_eq] at hk
      rw [hk.1] at hr
      exact sx_sNewL IH hC hA hL hQ hk.2 hr
  | false =>
  rw [h19, sx_if_f] at hr
  cases h20 : Nat.beq (sx_op w) 20 with
  | true =>
    rw [h20, sx_if_t] at hr
    have hw := hw (by rw [sx_beq h20]; decide)
    have hk := sx_wd20 hw (sx_beq h20)
    exact sx_sNewQ IH hC hA hL hQ hk hr
  | false =>
  rw [h20, sx_if_f] at hr
  cases h23 : Nat.beq (sx_op w) 23 with
  | true =>
    rw [h23, sx_if_t] at hr
    have hw := hw (by rw [sx_beq h23]; decide)
    have hk := sx_wd23 hw (sx_beq h23)
    exact sx_sInvI IH hC hA hL hQ hMO hM hk hr
  | false =>
  rw [h23, sx_if_f] at hr
  cases h24 : Nat.beq (sx_op w) 24 with
  | true =>
    rw [h24, sx_if_t] at hr
    have hw := hw (by rw [sx_beq h24]; decide)
    have hk := sx_wd24 hw (sx_beq h24)
    exact sx_sObj IH hC hA hL hQ hk hr
  | false =>
  rw [h24, sx_if_f] at hr
  cases h25 : Nat.beq (sx_op w) 25 with
  | true =>
    rw [h25, sx_if_t] at hr
    have hw := hw (by rw [sx_beq h25]; decide)
    have hk := sx_wd25 hw (sx_beq h25)
    exact sx_sCpy IH hC hA hL hQ hk hr
  | false =>
  rw [h25, sx_if_f] at hr
  cases h28 : Nat.beq (sx_op w) 28 with
  | true =>
    rw [h28, sx_if_t] at hr
    have hw := hw (by rw [sx_beq h28]; decide)
    have hk := sx_wd28 hw (sx_beq h28)
    exact sx_sThrow IH hC hA hL hQ (fun h0 => sx_hid0 hM h0) hk hr
  | false =>
  rw [h28, sx_if_f] at hr
  cases h32 : Nat.beq (sx_op w) 32 with
  | true =>
    rw [h32, sx_if_t] at hr
    have hw := hw (by rw [sx_beq h32]; decide)
    have hk := sx_wd32 hw (sx_beq h32)
    exact sx_sUn IH hC hA hL hQ hk hr
  | false =>
  rw [h32, sx_if_f] at hr
  cases h35 : Nat.beq (sx_op w) 35 with
  | true =>
    rw [h35, sx_if_t] at hr
    have hw := hw (by rw [sx_beq h35]; decide)
    have hk := sx_wd35 hw (sx_beq h35)
    exact sx_sLb IH hC hA hL hQ hk hr
  | false =>
  rw [h35, sx_if_f] at hr
  cases h37 : Nat.beq (sx_op w) 37 with
  | true =>
    rw [h37, sx_if_t] at hr
    have hw := hw (by rw [sx_beq h37]; decide)
    have hk := sx_wd37 hw (sx_beq h37)
    exact sx_sSw IH hC hA hL hQ hk hr
  | false =>
  rw [h37, sx_if_f] at hr
  cases h39 : Nat.beq (sx_op w) 39 with
  | true =>
    rw [h39, sx_if_t] at hr
    have hw := hw (by rw [sx_beq h39]; decide)
    have hk := sx_wd39 hw (sx_beq h39)
    exact sx_sInvX IH hC hA hL hQ hMO hM hk hr
  | false =>
  rw [h39, sx_if_f] at hr
  cases h38 : Nat.beq (sx_op w) 38 with
  | true =>
    rw [h38, sx_if_t] at hr
    have hw := hw (by rw [sx_beq h38]; decide)
    have hk := sx_wd38 hw (sx_beq h38)
    exact sx_sSget IH hC hA hL hQ hk hr
  | false =>
  rw [h38, sx_if_f] at hr
  cases h33 : Nat.beq (sx_op w) 33 with
  | true =>
    rw [h33, sx_if_t] at hr
    have hw := hw (by rw [sx_beq h33]; decide)
    have hk := sx_wd33 hw (sx_beq h33)
    exact sx_sLdcS IH hC hA hL hQ hk hr
  | false =>
  rw [h33, sx_if_f] at hr
  cases h34 : Nat.beq (sx_op w) 34 with
  | true =>
    rw [h34, sx_if_t] at hr
    have hw := hw (by rw [sx_beq h34]; decide)
    have hk := sx_wd34 hw (sx_beq h34)
    exact sx_sGets IH hC hA hL hQ hk hr
  | false =>
  rw [h34, sx_if_f] at hr
  cases h36 : Nat.beq (sx_op w) 36 with
  | true =>
    rw [h36, sx_if_t] at hr
    have hw := hw (by rw [sx_beq h36]; decide)
    have hk := sx_wd36 hw (sx_beq h36)
    exact sx_sBald IH hC hA hL hQ hk hr
  | false =>
  rw [h36, sx_if_f] at hr
  cases h42 : Nat.beq (sx_op w) 42 with
  | true =>
    rw [h42, sx_if_t] at hr
    have hw := hw (by rw [sx_beq h42]; decide)
    have hk := sx_wd42 hw (sx_beq h42)
    exact sx_sI2c IH hC hA hL hQ hk hr
  | false =>
  rw [h42, sx_if_f] at hr
  cases h43 : Nat.beq (sx_op w) 43 with
  | true =>
    rw [h43, sx_if_t] at hr
    have hw := hw (by rw [sx_beq h43]; decide)
    have hk := sx_wd43 hw (sx_beq h43)
    exact sx_sRetN IH hC hA hL hQ hk hr
  | false =>
  rw [h43, sx_if_f] at hr
  cases h40 : Nat.beq (sx_op w) 40 with
  | true =>
    rw [h40, sx_if_t] at hr
    have hw := hw (by rw [sx_beq h40]; decide)
    have hk := sx_wd40 hw (sx_beq h40)
    exact sx_sInvW IH hC hA hL hQ hMO hM hk hr
  | false =>
  rw [h40, sx_if_f] at hr
  cases h41 : Nat.beq (sx_op w) 41 with
  | true =>
    rw [h41, sx_if_t] at hr
    have hw := hw (by rw [sx_beq h41]; decide)
    have hk := sx_wd41 hw (sx_beq h41)
    exact sx_sLcon IH hC hA hL hQ hk hr
  | false =>
  rw [h41, sx_if_f] at hr
  cases hr
theorem sx_body0 : sx_body ih N 0 d mi 0 lst pc L S h n sy cs ss = none := rfl
theorem sx_step_ok (hMO : sx_MO) (hN31 : N < 2 ^ 31) (IH : sx_Ok N ih) : sx_Ok N (fun d mi cd lst fl pc L S h n sy cs ss => sx_step ih N d mi cd lst pc L S h n sy cs ss fl) := by
  intro d mi lst fl pc L S h n sy cs ss outs hr p l e R s m args below meth c D K b xs A q ad rs ls st H locs cells slots Q hC hA hL hQ
  have hr : sx_fo (sx_ft (sx_mt mi).1 pc) (fun w => sx_if (sx_if fl true (Nat.beq (sx_wh w) 0)) (sx_body ih N w d mi (sx_mt mi).1 lst pc L S h n sy cs ss) (sx_head ih d mi (sx_mt mi).1 lst pc L S h n sy cs ss)) = some outs := hr
  rw [sx_fo_eq] at hr
  have hbr : sx_body ih N (sx_ft (sx_mt mi).1 pc) d mi (sx_mt mi).1 lst pc L S h n sy cs ss = some outs ∨ sx_head ih d mi (sx_mt mi).1 lst pc L S h n sy cs ss = some outs := by
    cases hc : sx_if fl true (Nat.beq (sx_wh (sx_ft (sx_mt mi).1 pc)) 0) with
    | true => rw [hc, sx_if_t] at hr; exact Or.inl hr
    | false => rw [hc, sx_if_f] at hr; exact Or.inr hr
  rcases hbr with hr | hr
  · rcases Nat.eq_zero_or_pos (sx_mt mi).1 with h0 | h0
    · have hz : sx_ft (sx_mt mi).1 pc = 0 := by
        rw [h0]
        show (0 >>> (80 * pc)) % 1208925819614629174706176 = 0
        rw [Nat.zero_shiftRight]
      rw [hz, h0, sx_body0] at hr
      cases hr
    · have hM := hMO mi q hC.1 h0
      obtain ⟨len, hlen⟩ := hM.1
      exact sx_sBody IH hC hA hL hQ hMO hM hN31 (fun hne => sx_mw_ok hlen pc hne) hr
  · exact sx_sHead IH hC hA hL hQ hr
theorem sx_sound (hMO : sx_MO) (hN31 : N < 2 ^ 31) : ∀ fuel, sx_Ok N (sx_run N fuel)
  | 0 => fun d mi lst fl pc L S h n sy cs ss outs hr => by cases hr
  | fuel + 1 => sx_step_ok hMO hN31 (sx_sound hMO hN31 fuel)
end SXSound
end
section
/-! ax: an abstract executor over the concrete one. A value: as the concrete one's, but v % 8 = 1 the int of symbol v / 8 % 65536 and v / 524288 more, less 2^33; 7 any, 15 what 15 is, 23 some long, 31 some long that isn't 0. A symbol: least, greatest (both with 2^31 more), 1 + a value that it is at least, how it was made (1 a sum, 2 a difference, 3 the first without the second's bits, 4 how many bits, 5 all bits turned, 6 read from a place of a cell), of which values. The newest symbol stands first. -/
abbrev ax_E : Type := Nat × Nat × Nat × Nat × Nat × Nat
abbrev ax_Y : Type := List ax_E
/-- known places: cell, place (a value), what is there; facts: a symbol and so much (less 2^35) is at most another symbol -/
abbrev ax_M : Type := List (Nat × Nat × Nat)
abbrev ax_F : Type := List (Nat × Nat × Nat)
/-- an end: kind and value, as the concrete one's; memo, facts, symbols, how many, throws -/
abbrev ax_O : Type := Nat × Nat × ax_M × ax_F × ax_Y × Nat × Nat
abbrev ax_R : Type := Option (List ax_O)
noncomputable def ax_app (a b : ax_R) : ax_R := Option.rec none (fun x => Option.rec none (fun y => some (x ++ y)) b) a
def ax_k (a : Nat) : Nat := Nat.mod (Nat.div a 8) 65536
def ax_o (a : Nat) : Nat := Nat.div a 524288
def ax_sym (k : Nat) : Nat := Nat.add (Nat.mul 8 (Nat.add k 562949953421312)) 1
noncomputable def ax_at (Y : ax_Y) (n k : Nat) : Option ax_E := sx_nth Y (Nat.sub (Nat.pred n) k)
/-- bounds of an int -/
noncomputable def ax_rg {α : Type} (df : α) (Y : ax_Y) (n a : Nat) (K : Nat → Nat → α) : α :=
  sx_if (Nat.beq (sx_tg a) 0) (sx_fo (sx_bs (sx_pl a)) (fun z => K z z))
    (sx_if (Nat.beq (sx_tg a) 1) (Option.rec df (fun e => sx_fo (Nat.sub (Nat.add e.1 (ax_o a)) 8589934592) (fun lo => sx_fo (Nat.sub (Nat.add e.2.1 (ax_o a)) 8589934592) (fun hi => K lo hi))) (ax_at Y n (ax_k a))) df)
/-- an int that is known gets to be a number -/
noncomputable def ax_nm {α : Type} (Y : ax_Y) (n a : Nat) (K : Nat → α) : α :=
  sx_if (Nat.beq (sx_tg a) 1) (Option.rec (K a) (fun e => sx_if (Nat.beq e.1 e.2.1) (sx_fo (Nat.mul 8 (sx_bs (Nat.sub (Nat.add e.1 (ax_o a)) 8589934592))) K) (K a)) (ax_at Y n (ax_k a))) (K a)
/-- symbol k within lo to hi -/
noncomputable def ax_rf (Y : ax_Y) (n k lo hi : Nat) (K : ax_Y → ax_R) : ax_R :=
  Option.rec none (fun e => sx_fo (sx_mx e.1 lo) (fun lo => sx_fo (sx_mn e.2.1 hi) (fun hi => sx_if (Nat.ble lo hi) (sx_stK (lo, hi, e.2.2) Y (Nat.sub (Nat.pred n) k) K) (some [])))) (ax_at Y n k)
/-- a value within lo to hi, nothing else -/
noncomputable def ax_r1 (Y : ax_Y) (n a lo hi : Nat) (K : ax_Y → ax_R) : ax_R :=
  sx_if (Nat.beq (sx_tg a) 0) (sx_fo (sx_bs (sx_pl a)) (fun z => sx_if (sx_and (Nat.ble lo z) (Nat.ble z hi)) (K Y) (some [])))
    (sx_if (Nat.beq (sx_tg a) 1) (ax_rf Y n (ax_k a) (Nat.sub (Nat.add lo 8589934592) (ax_o a)) (Nat.sub (Nat.add hi 8589934592) (ax_o a)) K) none)
/-- a value within lo to hi; of a difference, of a sum what that says of its parts -/
noncomputable def ax_rv (Y : ax_Y) (n a lo hi : Nat) (K : ax_Y → ax_R) : ax_R :=
  ax_r1 Y n a lo hi (fun Y => sx_if (Nat.beq (sx_tg a) 1)
    (Option.rec none (fun e => sx_if (Nat.beq e.2.2.2.1 2)
      (ax_rg none Y n e.2.2.2.2.1 (fun bl bh => ax_r1 Y n e.2.2.2.2.2 (Nat.sub (Nat.add bl 2147483648) e.2.1) (Nat.sub (Nat.add bh 2147483648) e.1) (fun Y => ax_rg none Y n e.2.2.2.2.2 (fun fl fh => ax_r1 Y n e.2.2.2.2.1 (Nat.sub (Nat.add fl e.1) 2147483648) (Nat.sub (Nat.add fh e.2.1) 2147483648) K))))
      (sx_if (Nat.beq e.2.2.2.1 1)
        (ax_rg none Y n e.2.2.2.2.1 (fun bl bh => ax_r1 Y n e.2.2.2.2.2 (Nat.sub (Nat.add e.1 2147483648) bh) (Nat.sub (Nat.add e.2.1 2147483648) bl) (fun Y => ax_rg none Y n e.2.2.2.2.2 (fun fl fh => ax_r1 Y n e.2.2.2.2.1 (Nat.sub (Nat.add e.1 2147483648) fh) (Nat.sub (Nat.add e.2.1 2147483648) fl) K))))
        (K Y))) (ax_at Y n (ax_k a))) (K Y))
/-- is x and c more at most y, by their bounds, one symbol, a fact, a difference -/
noncomputable def ax_fk (F : ax_F) (kx ky : Nat) (t : Nat → Bool) : Bool := List.rec false (fun f _ ih => sx_if (sx_and (Nat.beq f.1 kx) (sx_and (Nat.beq f.2.1 ky) (t f.2.2))) true ih) F
noncomputable def ax_dk (Y : ax_Y) (kx ox ky oy c : Nat) : Bool := List.rec false (fun e _ ih => sx_if (sx_and (Nat.beq e.2.2.2.1 2) (sx_and (Nat.beq (sx_tg e.2.2.2.2.1) 1) (Nat.beq (sx_tg e.2.2.2.2.2) 1)))
  (sx_if (sx_and (Nat.beq (ax_k e.2.2.2.2.1) ky) (sx_and (Nat.beq (ax_k e.2.2.2.2.2) kx) (Nat.ble (Nat.add (Nat.add c 2147483648) (Nat.add (ax_o e.2.2.2.2.1) ox)) (Nat.add e.1 (Nat.add oy (ax_o e.2.2.2.2.2)))))) true
    (sx_if (sx_and (Nat.beq (ax_k e.2.2.2.2.1) kx) (sx_and (Nat.beq (ax_k e.2.2.2.2.2) ky) (Nat.ble (Nat.add (Nat.add c e.2.1) (Nat.add (ax_o e.2.2.2.2.2) ox)) (Nat.add 2147483648 (Nat.add oy (ax_o e.2.2.2.2.1)))))) true ih)) ih) Y
noncomputable def ax_l0 (F : ax_F) (Y : ax_Y) (n x y c : Nat) : Bool :=
  sx_if (ax_rg false Y n x (fun _ xh => ax_rg false Y n y (fun yl _ => Nat.ble (Nat.add xh c) yl))) true
    (sx_if (sx_and (Nat.beq (sx_tg x) 1) (Nat.beq (sx_tg y) 1))
      (sx_if (Nat.beq (ax_k x) (ax_k y)) (Nat.ble (Nat.add (ax_o x) c) (ax_o y))
        (sx_if (ax_fk F (ax_k x) (ax_k y) (fun f => Nat.ble (Nat.add (Nat.add (ax_o x) c) 34359738368) (Nat.add f (ax_o y)))) true (ax_dk Y (ax_k x) (ax_o x) (ax_k y) (ax_o y) c))) false)
/-- a difference whose first is symbol ky -/
noncomputable def ax_dn (Y : ax_Y) (ky : Nat) : Option ax_E := List.rec none (fun e _ ih => sx_if (sx_and (Nat.beq e.2.2.2.1 2) (sx_and (Nat.beq (sx_tg e.2.2.2.2.1) 1) (sx_and (Nat.beq (ax_k e.2.2.2.2.1) ky) (Nat.beq (sx_tg e.2.2.2.2.2) 1)))) (some e) ih) Y
/-- the same, and by what y is at least -/
noncomputable def ax_le (F : ax_F) (Y : ax_Y) (n x c fuel : Nat) : Nat → Bool := Nat.rec (fun y => ax_l0 F Y n x y c) (fun _ ih y => sx_if (ax_l0 F Y n x y c) true
  (sx_if (Nat.beq (sx_tg y) 1) (Option.rec false (fun e => sx_if (Nat.beq (sx_tg (Nat.pred e.2.2.1)) 1)
      (sx_fo (Nat.sub (Nat.add (Nat.pred e.2.2.1) (Nat.mul 524288 (ax_o y))) 4503599627370496) (fun y => sx_if (Nat.ble 4294967296 (ax_o y)) (ih y) false))
      (Option.rec false (fun e => sx_fo (Nat.sub (Nat.add e.2.2.2.2.2 (Nat.mul 524288 (Nat.add e.1 (ax_o y)))) (Nat.mul 524288 (Nat.add 2147483648 (ax_o e.2.2.2.2.1)))) (fun y => sx_if (Nat.ble 4294967296 (ax_o y)) (ih y) false)) (ax_dn Y (ax_k y)))) (ax_at Y n (ax_k y))) false)) fuel
/-- x and c more is at most y: a fact, if both are symbols -/
noncomputable def ax_af (F : ax_F) (x y c : Nat) (K : ax_F → ax_R) : ax_R :=
  sx_if (sx_and (Nat.beq (sx_tg x) 1) (Nat.beq (sx_tg y) 1)) (sx_fo (ax_k x) (fun kx => sx_fo (ax_k y) (fun ky => sx_fo (Nat.sub (Nat.add (Nat.add (ax_o x) c) 34359738368) (ax_o y)) (fun f => K ((kx, ky, f) :: F))))) (K F)
noncomputable def ax_lt (x y : Nat) (F : ax_F) (Y : ax_Y) (n : Nat) (K : Bool → ax_F → ax_Y → ax_R) : ax_R :=
  sx_if (ax_le F Y n x 1 40 y) (K true F Y) (sx_if (ax_le F Y n y 0 40 x) (K false F Y)
    (ax_rg none Y n x (fun xl xh => ax_rg none Y n y (fun yl yh =>
      ax_app (sx_if (Nat.beq yh 0) (some []) (ax_rv Y n x xl (Nat.pred yh) (fun Y => ax_rv Y n y (Nat.succ xl) yh (fun Y => ax_af F x y 1 (fun F => K true F Y)))))
        (ax_rv Y n x yl xh (fun Y => ax_rv Y n y yl xh (fun Y => ax_af F y x 0 (fun F => K false F Y))))))))
noncomputable def ax_eq (x y : Nat) (F : ax_F) (Y : ax_Y) (n : Nat) (K : Bool → ax_F → ax_Y → ax_R) : ax_R :=
  ax_nm Y n x (fun x => ax_nm Y n y (fun y => sx_if (Nat.beq x y) (K true F Y)
    (ax_rg none Y n x (fun xl xh => ax_rg none Y n y (fun yl yh =>
      sx_if (sx_if (Nat.blt xh yl) true (Nat.blt yh xl)) (K false F Y)
        (sx_if (sx_if (ax_le F Y n x 1 40 y) true (ax_le F Y n y 1 40 x)) (K false F Y)
          (ax_app (ax_rv Y n x (sx_mx xl yl) (sx_mn xh yh) (fun Y => ax_rv Y n y (sx_mx xl yl) (sx_mn xh yh) (fun Y => K true F Y)))
            (sx_if (Nat.beq yl yh) (ax_app (sx_if (Nat.beq yl 0) (some []) (ax_rv Y n x xl (Nat.pred yl) (fun Y => K false F Y))) (ax_rv Y n x (Nat.succ yl) xh (fun Y => K false F Y)))
              (sx_if (Nat.beq xl xh) (ax_app (sx_if (Nat.beq xl 0) (some []) (ax_rv Y n y yl (Nat.pred xl) (fun Y => K false F Y))) (ax_rv Y n y (Nat.succ xl) yh (fun Y => K false F Y)))
                (K false F Y))))))))))
noncomputable def ax_cmp (c x y : Nat) (F : ax_F) (Y : ax_Y) (n : Nat) (K : Bool → ax_F → ax_Y → ax_R) : ax_R :=
  sx_if (Nat.beq c 0) (ax_eq x y F Y n K) (sx_if (Nat.beq c 1) (ax_eq x y F Y n (fun b => K (!b)))
    (sx_if (Nat.beq c 2) (ax_lt x y F Y n K) (sx_if (Nat.beq c 3) (ax_lt x y F Y n (fun b => K (!b)))
      (sx_if (Nat.beq c 4) (ax_lt y x F Y n K) (ax_lt y x F Y n (fun b => K (!b)))))))
/-! sums and the like -/
noncomputable def ax_fd (Y : ax_Y) (n op x y : Nat) : Option Nat := (fun (f : ax_Y → Nat → Option Nat) => f Y n) (fun Y => List.rec (fun _ => none) (fun e _ ih n => sx_if (sx_and (Nat.beq e.2.2.2.1 op) (sx_and (Nat.beq e.2.2.2.2.1 x) (Nat.beq e.2.2.2.2.2 y))) (some (Nat.pred n)) (ih (Nat.pred n))) Y)
noncomputable def ax_fr (Y : ax_Y) (n lo hi ge op x y : Nat) (K : Nat → ax_Y → Nat → ax_R) : ax_R :=
  sx_if (Nat.blt n 65536) (sx_fo lo (fun lo => sx_fo hi (fun hi => sx_fo ge (fun ge => sx_fo x (fun x => sx_fo y (fun y => sx_fo (ax_sym n) (fun v => sx_fo (Nat.succ n) (fun n => K v ((lo, hi, ge, op, x, y) :: Y) n)))))))) none
/-- some int of lo to hi, made by op of x and y: the one made so before, a number, or a new one -/
noncomputable def ax_fn (Y : ax_Y) (n lo hi op x y : Nat) (K : Nat → ax_Y → Nat → ax_R) : ax_R :=
  sx_if (Nat.beq lo hi) (sx_fo (Nat.mul 8 (sx_bs lo)) (fun v => K v Y n))
    (sx_if (Nat.beq op 0) (ax_fr Y n lo hi 0 0 0 0 K) (Option.rec (ax_fr Y n lo hi 0 op x y K) (fun k => sx_if (Nat.blt k 65536) (sx_fo (ax_sym k) (fun v => K v Y n)) none) (ax_fd Y n op x y)))
noncomputable def ax_any (Y : ax_Y) (n : Nat) (K : Nat → ax_Y → Nat → ax_R) : ax_R := ax_fr Y n 0 4294967295 0 0 0 0 K
end
section
/-! ax: sums, products, bits; places of cells -/
noncomputable def ax_bk (o x y : Nat) (K : Nat → ax_R) : ax_R :=
  sx_if (Nat.beq o 0) (sx_fo (Nat.mul 8 (Nat.mod (Nat.add x y) 4294967296)) K)
    (sx_if (Nat.ble 9 o) (sx_if (Nat.beq (Nat.mod y 4294967296) 0) none (sx_fo (sx_i (sx_bf o (Int32.ofNat x) (Int32.ofNat y))) K)) (sx_fo (sx_i (sx_bf o (Int32.ofNat x) (Int32.ofNat y))) K))
/-- a value one after the other, m more than the least at most -/
noncomputable def ax_en (Y : ax_Y) (n a m : Nat) (K : Nat → ax_Y → ax_R) : ax_R := ax_rg none Y n a (fun lo hi => sx_if (Nat.ble hi (Nat.add lo m)) (Nat.rec (some []) (fun i ih => ax_app ih (sx_fo (Nat.add lo i) (fun z => ax_rv Y n a z z (fun Y => K z Y)))) (Nat.sub (Nat.succ hi) lo)) none)
noncomputable def ax_pw (m : Nat) : Nat := sx_if (Nat.beq m 0) 0 (Nat.pred (Nat.pow 2 (Nat.succ (Nat.log2 m))))
/-- how the symbol x was made: op, of what, behind K; a0 else -/
noncomputable def ax_mk {α : Type} (df : α) (Y : ax_Y) (n x : Nat) (K : Nat → Nat → Nat → α) : α := sx_if (sx_and (Nat.beq (sx_tg x) 1) (Nat.beq (ax_o x) 8589934592)) (Option.rec df (fun e => K e.2.2.2.1 e.2.2.2.2.1 e.2.2.2.2.2) (ax_at Y n (ax_k x))) df
/-- b has no bits but a's -/
noncomputable def ax_sub (Y : ax_Y) (a b : Nat) : Bool := List.rec false (fun e _ ih => sx_if (sx_and (Nat.beq e.2.2.2.1 3) (sx_and (Nat.beq e.2.2.2.2.1 b) (sx_and (Nat.beq e.2.2.2.2.2 a) (sx_and (Nat.beq e.1 2147483648) (Nat.beq e.2.1 2147483648))))) true ih) Y
noncomputable def ax_bs2 (o x y xl xh yl yh : Nat) (F : ax_F) (Y : ax_Y) (n : Nat) (K : Nat → ax_Y → Nat → ax_R) : ax_R :=
  sx_if (Nat.beq o 0)
    (sx_if (sx_and (Nat.ble 2147483648 (Nat.add xl yl)) (Nat.blt (Nat.add xh yh) 6442450944))
      (sx_if (Nat.beq (sx_tg y) 0) (sx_fo (Nat.sub (Nat.add x (Nat.mul 524288 yl)) 1125899906842624) (fun v => K v Y n))
        (sx_if (Nat.beq (sx_tg x) 0) (sx_fo (Nat.sub (Nat.add y (Nat.mul 524288 xl)) 1125899906842624) (fun v => K v Y n))
          (ax_fn Y n (Nat.sub (Nat.add xl yl) 2147483648) (Nat.sub (Nat.add xh yh) 2147483648) 1 x y K))) (ax_any Y n K))
  (sx_if (Nat.beq o 1)
    (sx_if (sx_and (Nat.ble yh (Nat.add xl 2147483648)) (Nat.blt (Nat.add xh 2147483648) (Nat.add yl 4294967296)))
      (sx_if (Nat.beq (sx_tg y) 0) (sx_fo (Nat.sub (Nat.add x 1125899906842624) (Nat.mul 524288 yl)) (fun v => K v Y n))
        (sx_if (sx_and (Nat.beq (sx_tg x) 1) (Nat.beq (ax_k x) (ax_k y))) (sx_fo (Nat.mul 8 (sx_bs (Nat.sub (Nat.add (ax_o x) 2147483648) (ax_o y)))) (fun v => K v Y n))
          (sx_fo (Nat.sub (Nat.add xl 2147483648) yh) (fun lo => sx_fo (sx_if (sx_if (ax_le F Y n y 0 40 x) true (ax_mk false Y n x (fun ox ax _ => ax_mk false Y n y (fun oy ay _ => sx_and (Nat.beq ox 4) (sx_and (Nat.beq oy 4) (ax_sub Y ax ay)))))) (sx_mx lo 2147483648) lo)
            (fun lo => ax_fn Y n lo (Nat.sub (Nat.add xh 2147483648) yl) 2 x y K))))) (ax_any Y n K))
  (sx_if (Nat.beq o 2)
    (sx_if (sx_and (sx_and (Nat.ble 2147483648 xl) (Nat.ble 2147483648 yl)) (Nat.blt (Nat.mul (Nat.sub xh 2147483648) (Nat.sub yh 2147483648)) 2147483648))
      (ax_fn Y n (Nat.add 2147483648 (Nat.mul (Nat.sub xl 2147483648) (Nat.sub yl 2147483648))) (Nat.add 2147483648 (Nat.mul (Nat.sub xh 2147483648) (Nat.sub yh 2147483648))) 0 0 0 K) (ax_any Y n K))
  (sx_if (Nat.beq o 3)
    (sx_if (Nat.ble 2147483648 xl) (sx_if (Nat.ble 2147483648 yl) (ax_fn Y n 2147483648 (sx_mn xh yh) 0 0 0 K)
        (ax_mk (ax_fn Y n 2147483648 xh 0 0 0 K) Y n y (fun oy ay _ => sx_if (Nat.beq oy 5) (ax_fn Y n 2147483648 xh 3 x ay K) (ax_fn Y n 2147483648 xh 0 0 0 K))))
      (sx_if (Nat.ble 2147483648 yl) (ax_fn Y n 2147483648 yh 0 0 0 K) (ax_any Y n K)))
  (sx_if (sx_and (Nat.beq o 5) (Nat.beq y 34359738360)) (ax_fn Y n (Nat.sub 4294967295 xh) (Nat.sub 4294967295 xl) 5 x 0 K)
  (sx_if (sx_if (Nat.beq o 4) true (Nat.beq o 5))
    (sx_if (sx_and (Nat.ble 2147483648 xl) (Nat.ble 2147483648 yl)) (sx_fo (Nat.add 2147483648 (ax_pw (sx_mx (Nat.sub xh 2147483648) (Nat.sub yh 2147483648)))) (fun hi => ax_fn Y n 2147483648 hi 0 0 0 K)) (ax_any Y n K))
  (sx_if (Nat.beq o 6)
    (sx_if (sx_and (sx_and (Nat.ble 2147483648 xl) (Nat.ble 2147483648 yl)) (sx_and (Nat.ble yh 2147483678) (Nat.blt (Nat.shiftLeft (Nat.sub xh 2147483648) (Nat.sub yh 2147483648)) 2147483648)))
      (ax_fn Y n (Nat.add 2147483648 (Nat.shiftLeft (Nat.sub xl 2147483648) (Nat.sub yl 2147483648))) (Nat.add 2147483648 (Nat.shiftLeft (Nat.sub xh 2147483648) (Nat.sub yh 2147483648))) 0 0 0 K) (ax_any Y n K))
  (sx_if (sx_if (Nat.beq o 7) true (Nat.beq o 8))
    (sx_if (Nat.ble 2147483648 xl)
      (sx_if (sx_and (Nat.ble 2147483648 yl) (Nat.ble yh 2147483679)) (ax_fn Y n (Nat.add 2147483648 (Nat.shiftRight (Nat.sub xl 2147483648) (Nat.sub yh 2147483648))) (Nat.add 2147483648 (Nat.shiftRight (Nat.sub xh 2147483648) (Nat.sub yl 2147483648))) 0 0 0 K)
        (ax_fn Y n 2147483648 xh 0 0 0 K))
      (sx_if (sx_and (Nat.beq o 8) (sx_and (Nat.beq yl yh) (sx_and (Nat.blt 2147483648 yl) (Nat.ble yl 2147483679)))) (ax_fn Y n 2147483648 (Nat.add 2147483648 (Nat.pred (Nat.pow 2 (Nat.sub 2147483680 yl)))) 0 0 0 K) (ax_any Y n K)))
  (sx_if (Nat.blt 2147483648 yl)
    (sx_if (Nat.beq o 9)
      (sx_if (Nat.ble 2147483648 xl) (ax_fn Y n (Nat.add 2147483648 (Nat.div (Nat.sub xl 2147483648) (Nat.sub yh 2147483648))) (Nat.add 2147483648 (Nat.div (Nat.sub xh 2147483648) (Nat.sub yl 2147483648))) 0 0 0 K) (ax_any Y n K))
      (ax_fn Y n (sx_if (Nat.ble 2147483648 xl) 2147483648 (sx_mx xl (Nat.sub 4294967297 yh))) (sx_if (Nat.ble 2147483648 xh) (sx_mn xh (Nat.pred yh)) 2147483648) 0 0 0 K))
    (sx_if (Nat.blt yh 2147483648) (ax_any Y n K) none)))))))))
noncomputable def ax_bin (o x y : Nat) (F : ax_F) (Y : ax_Y) (n : Nat) (K : Nat → ax_Y → Nat → ax_R) : ax_R :=
  ax_nm Y n x (fun x => ax_nm Y n y (fun y => sx_if (sx_and (Nat.beq (sx_tg x) 0) (Nat.beq (sx_tg y) 0)) (ax_bk o (sx_pl x) (sx_pl y) (fun v => K v Y n))
    (sx_if (sx_and (Nat.beq o 2) (sx_and (sx_if (Nat.beq x 56) true (Nat.beq x 2912)) (Nat.beq (sx_tg y) 1))) (ax_en Y n y 12 (fun z Y => ax_bk o (sx_pl x) (sx_bs z) (fun v => K v Y n)))
      (ax_rg none Y n x (fun xl xh => ax_rg none Y n y (fun yl yh => ax_bs2 o x y xl xh yl yh F Y n K))))))
/-! places: of a cell its head (as in the concrete one), its period, and stretches: up to which place, kind (0 an int of a to b, 1 the reference a, 2 the reference a or b, 3 a long, 4 an int of a to b or of c to d), a, b, c, d -/
abbrev ax_S : Type := Nat × Nat × Nat × Nat × Nat × Nat
abbrev ax_C0 : Type := Nat × Nat × List ax_S
noncomputable def ax_gK {β : Type} (t : sx_Q (sx_Q (sx_Q (sx_Q ax_C0)))) (k : Nat) (f : Nat → Nat → List ax_S → β) : β := sx_g4 t (Nat.mod (Nat.div k 64) 4) (fun h3 => sx_g4 h3 (Nat.mod (Nat.div k 16) 4) (fun h2 => sx_g4 h2 (Nat.mod (Nat.div k 4) 4) (fun h1 => sx_g4 h1 (Nat.mod k 4) (fun c => Prod.rec (fun a r => Prod.rec (fun b l => f a b l) r) c))))
/-- the stretch of place lo, if it reaches to hi -/
noncomputable def ax_sg (l : List ax_S) (lo hi : Nat) : Option ax_S := List.rec none (fun s _ ih => sx_if (Nat.blt lo s.1) (sx_if (Nat.blt hi s.1) (some s) none) ih) l
/-- the least and the greatest of ints at lo to hi -/
noncomputable def ax_sj (l : List ax_S) (lo hi : Nat) : Nat → Nat → Nat → Option (Nat × Nat) := List.rec (fun _ a b => some (a, b)) (fun s _ ih fr a b => sx_if (Nat.ble s.1 lo) (ih s.1 a b) (sx_if (Nat.ble fr hi) (sx_if (Nat.beq s.2.1 0) (sx_fo (sx_mn a s.2.2.1) (fun a => sx_fo (sx_mx b s.2.2.2.1) (fun b => ih s.1 a b))) none) (some (a, b)))) l
/-- the greatest of the leasts, the least of the greatests -/
noncomputable def ax_sm (l : List ax_S) (lo hi : Nat) : Nat → Nat → Nat → Option (Nat × Nat) := List.rec (fun _ a b => some (a, b)) (fun s _ ih fr a b => sx_if (Nat.ble s.1 lo) (ih s.1 a b) (sx_if (Nat.ble fr hi) (sx_if (Nat.beq s.2.1 0) (sx_fo (sx_mx a s.2.2.1) (fun a => sx_fo (sx_mn b s.2.2.2.1) (fun b => ih s.1 a b))) none) (some (a, b)))) l
noncomputable def ax_mg (M : ax_M) (c k : Nat) : Option Nat := List.rec none (fun m _ ih => sx_if (sx_and (Nat.beq m.1 c) (Nat.beq m.2.1 k)) (some m.2.2) ih) M
/-- without what may be at lo to hi of the cell c -/
noncomputable def ax_mf (Y : ax_Y) (n c lo hi : Nat) (M : ax_M) : ax_M := List.rec [] (fun m _ ih => sx_if (Nat.beq m.1 c) (ax_rg ih Y n m.2.1 (fun kl kh => sx_if (sx_if (Nat.blt kh lo) true (Nat.blt hi kl)) (m :: ih) ih)) (m :: ih)) M
def ax_bit (arr : Bool) (c j : Nat) : Nat := Nat.add (Nat.mul 32 c) (cond arr 0 j)
noncomputable def ax_tb (md i : Nat) : Bool := Nat.beq (Nat.mod (Nat.shiftRight md i) 2) 1
end
