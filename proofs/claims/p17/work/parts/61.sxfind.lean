/-! sx: handlers -/
section SXFind
variable {N : Nat} {ih : sx_ih} {w d mi pc n cs ss : Nat} {lst : List sx_I} {L S : List Nat} {h : sx_H} {sy : sx_Y} {outs : List sx_O}
variable {p : Program} {l : Launch} {e : Env} {R : Room} {s : State} {m : MethodId} {args : Array Value} {below : List Frame} {meth : Method} {c : Code} {D : va_G} {K : ClassId → FieldType → Prop} {b : Nat → Nat} {xs : Nat → Int32} {A : Nat → Prop} {q : sx_M}
variable {ad : List Nat} {rs : List Int32} {ls : Array Slot} {st : List Value} {H : Heap} {locs : List Loc} {cells slots : Nat} {Q : State → Prop}
theorem sx_goClass {U : State} {g : JFrame} {a : Addr} {vm1 : Vm} {x : ExceptionTableEntry} {tb : List ExceptionTableEntry} {cx : ClassId} {cell : Cell} {Q' : Handler → Pre} {E' : CtlPost} {d' : Bool} {acts : List Action} (hx : covers x g.pc = true) (h0 : x.catchType ≠ 0)
    (hgv : (Jvm.resolveClass g.method.cls x.catchType).Gives e.toSetting U.vm (.ok cx) vm1) (hsz : vm1.classes.size ≤ U.vm.classes.size) (hcell : U.heap[a]? = some cell) (hobj : ∀ k, cell.vm ≠ .statics k) (hk : ∃ k, vm1.classes[cell.cls]? = some k) (hc : ∃ k, vm1.classes[cx]? = some k) :
    wp (findHandler.go g a (x :: tb)) Q' E' e d' acts U ↔ if vm1.assignable cell.cls cx = true then Q' (.found x.handlerPc) d' acts (U.setVm vm1) else wp (findHandler.go g a tb) Q' E' e d' acts (U.setVm vm1) := by
  obtain ⟨ha, ht⟩ := hgv.op (op := VmOp.resolveClass g.method.cls x.catchType) rfl
  simp only [covers] at hx
  cases hfit : vm1.assignable cell.cls cx <;>
    simp [findHandler.go, hx, h0, ha, ht, hsz, hcell, hobj, hk, hc, hfit, VmOp.dirties, VmOp.acts]
theorem sx_caught {T : State} {g : JFrame} {a : Addr} {tgt : State} {k : Nat} {vm1 : Vm} (X : Stand p l e R s m args below meth c T locs cells slots) (hg : g.method = m) (hW : s.WarmedH vm1)
    (hfind : ∀ (Q' : Handler → Pre) (E' : CtlPost) (d' : Bool) (acts : List Action), wp (findHandler g a) Q' E' e d' acts ((T.setTop g).pushFrame (.throwing a)) ↔ Q' (.found k) d' acts (((T.setVm vm1).setTop g).pushFrame (.throwing a)))
    (hrest : Steps p.tables e below ((T.setVm vm1).setTop { g with pc := k, stack := [.ref a] }) tgt) : Steps p.tables e below ((T.setTop g).pushFrame (.throwing a)) tgt := by
  subst hg
  have h := X.here
  obtain ⟨hgo, hw⟩ := h.throwing a
  refine Steps.head hgo hw ?_
  rw [stepThread_throwing (frames_entered h.top _)]
  have hs : (stepThrowing e ((T.setTop g).pushFrame (.throwing a)) a (.java g :: T.frames.tail)).Is ((((T.setVm vm1).setTop g).pushFrame (.throwing a)).setFrames (.java { g with pc := k, stack := [.ref a] } :: T.frames.tail)) [] := by
    simp only [stepThrowing, searchFrame, vmDo]
    generalize hr : Sem.go _ e false [] ((T.setTop g).pushFrame (.throwing a)) = res
    obtain ⟨as, rfl, ha⟩ := Sem.eq_ok_of hr (a := Handler.found k) (s' := ((T.setVm vm1).setTop g).pushFrame (.throwing a)) (acts' := []) (by simp [hfind _ _ _ _])
    exact ⟨rfl, ha⟩
  rw [hs.1]
  obtain ⟨g₀, hg0⟩ := Option.isSome_iff_exists.mp h.top
  obtain ⟨r, hr⟩ := State.topJava?_eq_some.mp hg0
  have hr1 : (T.setVm vm1).frames = .java g₀ :: r := hr
  rw [State.setTop_of_frames _ hr1] at hrest
  rw [State.pushFrame, State.setTop_of_frames _ hr1, State.setFrames_setFrames, State.setFrames_setFrames, hr]
  exact hrest
theorem sx_setVm_thr (T : State) (g : JFrame) (a : Addr) (vm0 vm1 : Vm) : (((T.setVm vm0).setTop g).pushFrame (.throwing a)).setVm vm1 = ((T.setVm vm1).setTop g).pushFrame (.throwing a) := rfl
theorem sx_exc_nd : ∀ i, i < 5 → ∀ j, j < 5 → sx_exc[i]? = sx_exc[j]? → i = j := by decide +kernel
theorem sx_exc_lt {i : Nat} {x : String} (h : sx_exc[i]? = some x) : i < 5 := (List.getElem?_eq_some_iff.mp h).1
theorem sx_find {T : State} {g : JFrame} {a : Addr} {cell : Cell} {E : Nat} {nm : String} (hpl : e.platform.magicAccessors = ({} : Platform).magicAccessors) (hg : g.method = m) (hT : sx_Tb D K s) (hown : s.vm.findClass q.1.cls = some m.cls) (hE : sx_exc[E]? = some nm) (hcell : T.heap[a]? = some cell) (hcls : s.vm.findClass nm = some cell.cls) (hvm : cell.vm = .none) :
    ∀ (hh : List (Nat × Nat × Nat × Nat × Nat)) (tb : List ExceptionTableEntry), hh.length = tb.length →
      (∀ z ∈ hh.zip (tb.map (fun h => (h.startPc, h.endPc, h.handlerPc, h.catchType))), z.1.1 = z.2.1 ∧ z.1.2.1 = z.2.2.1 ∧ z.1.2.2.1 = z.2.2.2.1 ∧ z.2.2.2.2 ≠ 0 ∧ ∃ t, sx_cl[z.1.2.2.2.2]? = some t ∧ t.1 = q.1.cls ∧ t.2.1 = z.2.2.2.2 ∧ sx_exc[z.1.2.2.2.1]? = some t.2.2) →
      sx_hnd g.pc hh E ≠ 0 → ∀ vm₀, s.WarmedH vm₀ → ∃ vm₁, s.WarmedH vm₁ ∧ ∀ (Q' : Handler → Pre) (E' : CtlPost) (d' : Bool) (acts : List Action), wp (findHandler.go g a tb) Q' E' e d' acts (((T.setVm vm₀).setTop g).pushFrame (.throwing a)) ↔ Q' (.found (sx_hnd g.pc hh E - 1)) d' acts (((T.setVm vm₁).setTop g).pushFrame (.throwing a)) := by
  intro hh
  induction hh with
  | nil => intro tb _ _ h0; exact absurd rfl h0
  | cons z hh ihh =>
    intro tb hlen hz h0 vm₀ hW₀
    cases tb with
    | nil => simp at hlen
    | cons x tb =>
      obtain ⟨z1, z2, z3, z4, t, ht, t1, t2, t3⟩ := hz (z, (x.startPc, x.endPc, x.handlerPc, x.catchType)) (by simp)
      dsimp only at z1 z2 z3 z4 t2
      have hrec := ihh tb (by simpa using hlen) (fun w hw => hz w (by simp only [List.map_cons, List.zip_cons_cons]; exact List.mem_cons_of_mem _ hw))
      have hdef : sx_hnd g.pc (z :: hh) E = sx_if (sx_and (Nat.ble z.1 g.pc) (sx_and (Nat.blt g.pc z.2.1) (Nat.beq z.2.2.2.1 E))) (Nat.succ z.2.2.1) (sx_hnd g.pc hh E) := rfl
      cases hcov : covers x g.pc with
      | true =>
        have hcv := hcov
        simp only [covers, Bool.and_eq_true, decide_eq_true_eq] at hcv
        have hcl0 := hT.1 #[] _ (sx_cl_in ht)
        rw [t1, t2] at hcl0
        obtain ⟨cx, hcx, hcl⟩ := Cond.classLink_spec hown hcl0 e.platform hpl
        obtain ⟨dk, _, _, kt, hd, _, _, _, _, hkt, _, hopen⟩ := hcl.here
        have hclv := hW₀.classLinks hcl
        have hW₁ : s.WarmedH (vm₀.noted m.cls x.catchType (.cls cx)) := hW₀.noted hd hopen (State.rightAt_cls hcl)
        obtain ⟨c1, c2, q1, q2, q3⟩ := hT.2.2.2.1 nm (List.mem_of_getElem? hE) t.2.2 (List.mem_of_getElem? t3)
        cases hcls.symm.trans q1
        cases hcx.symm.trans q2
        obtain ⟨ke, hke⟩ := Vm.classAt_of_findClass hcls
        obtain ⟨ke', hke', -⟩ := hW₁.alike.2.2 _ _ hke
        obtain ⟨kt', hkt', -⟩ := hW₁.alike.2.2 _ _ hkt
        have hgo : ∀ (Q' : Handler → Pre) (E' : CtlPost) (d' : Bool) (acts : List Action), wp (findHandler.go g a (x :: tb)) Q' E' e d' acts (((T.setVm vm₀).setTop g).pushFrame (.throwing a)) ↔ if (vm₀.noted m.cls x.catchType (.cls cx)).assignable cell.cls cx = true then Q' (.found x.handlerPc) d' acts (((T.setVm (vm₀.noted m.cls x.catchType (.cls cx))).setTop g).pushFrame (.throwing a)) else wp (findHandler.go g a tb) Q' E' e d' acts (((T.setVm (vm₀.noted m.cls x.catchType (.cls cx))).setTop g).pushFrame (.throwing a)) :=
          fun Q' E' d' acts => sx_goClass (U := ((T.setVm vm₀).setTop g).pushFrame (.throwing a)) hcov z4 (by rw [hg]; exact resolveClass_links e.toSetting hclv) (by show (vm₀.noted m.cls x.catchType (.cls cx)).classes.size ≤ vm₀.classes.size; simp [Vm.noted]) hcell (fun k hk => by rw [hvm] at hk; cases hk) ⟨ke', hke'⟩ ⟨kt', hkt'⟩
        have hasg : ((vm₀.noted m.cls x.catchType (.cls cx)).assignable cell.cls cx = true) ↔ nm = t.2.2 := by rw [hW₁.alike.assignable]; exact q3
        have b1 : Nat.ble z.1 g.pc = true := Nat.ble_eq_true_of_le (by rw [z1]; exact hcv.1)
        have b2 : Nat.blt g.pc z.2.1 = true := sx_blt_t (by rw [z2]; exact hcv.2)
        by_cases hEE : z.2.2.2.1 = E
        · have hnm : nm = t.2.2 := by rw [hEE, hE] at t3; exact Option.some.inj t3
          refine ⟨_, hW₁, fun Q' E' d' acts => (hgo Q' E' d' acts).trans ?_⟩
          rw [if_pos (hasg.mpr hnm), hdef, b1, b2, sx_beq_t hEE]
          show _ ↔ Q' (.found (z.2.2.1 + 1 - 1)) _ _ _
          rw [Nat.add_sub_cancel, z3]
        · have hnm : ¬ nm = t.2.2 := fun h => hEE (sx_exc_nd _ (sx_exc_lt t3) _ (sx_exc_lt hE) (by rw [t3, hE, h]))
          have hd2 : sx_hnd g.pc (z :: hh) E = sx_hnd g.pc hh E := by rw [hdef, b1, b2, sx_beq_e hEE]; rfl
          rw [hd2] at h0 ⊢
          obtain ⟨vm₁, w1, w2⟩ := hrec h0 _ hW₁
          refine ⟨vm₁, w1, fun Q' E' d' acts => (hgo Q' E' d' acts).trans ?_⟩
          rw [if_neg (fun h => hnm (hasg.mp h))]
          exact w2 Q' E' d' acts
      | false =>
        have hd2 : sx_hnd g.pc (z :: hh) E = sx_hnd g.pc hh E := by
          rw [hdef]
          cases b1 : Nat.ble z.1 g.pc with
          | false => rfl
          | true =>
            cases b2 : Nat.blt g.pc z.2.1 with
            | false => rfl
            | true =>
              exfalso
              have h1 := sx_ble b1
              have h2 := sx_blt b2
              rw [z1] at h1
              rw [z2] at h2
              simp only [covers, Bool.and_eq_false_iff, decide_eq_false_iff_not] at hcov
              omega
        rw [hd2] at h0 ⊢
        obtain ⟨vm₁, w1, w2⟩ := hrec h0 _ hW₀
        refine ⟨vm₁, w1, fun Q' E' d' acts => (Jvm.W.findHandler_go_skip hcov).trans (w2 Q' E' d' acts)⟩
end SXFind
