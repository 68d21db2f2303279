/-! sx: calls -/
section SXCall
variable {N : Nat} {ih : sx_ih} {w d mi pc n cs ss : Nat} {lst : List sx_I} {L S : List Nat} {h : sx_H} {sy : sx_Y} {outs : List sx_O}
variable {p : Program} {l : Launch} {e : Env} {R : Room} {s : State} {m : MethodId} {args : Array Value} {below : List Frame} {meth : Method} {c : Code} {D : va_G} {K : ClassId → FieldType → Prop} {b : Nat → Nat} {xs : Nat → Int32} {A : Nat → Prop} {q : sx_M}
variable {ad : List Nat} {rs : List Int32} {ls : Array Slot} {st : List Value} {H : Heap} {locs : List Loc} {cells slots : Nat} {Q : State → Prop}
def sx_hB (hid : Nat) (q : sx_M) : Bool := if hid = 0 then decide (q.2.2.2.2 = []) else sx_oa (sx_hands[hid]?) (fun hh => decide (hh.length = q.2.2.2.2.length) && (hh.zip q.2.2.2.2).all (fun z => decide (z.1.1 = z.2.1) && (decide (z.1.2.1 = z.2.2.1) && (decide (z.1.2.2.1 = z.2.2.2.1) && (decide (z.2.2.2.2 ≠ 0) && sx_oa (sx_cl[z.1.2.2.2.2]?) (fun t => decide (t.1 = q.1.cls) && (decide (t.2.1 = z.2.2.2.2) && sx_oa (sx_exc[z.1.2.2.2.1]?) (fun X => decide (X = t.2.2)))))))))
def sx_nB (mi : Nat) (q : sx_M) : Bool := if sx_stl.contains mi then decide ((parseMethodDescriptor q.1.desc).map (fun d => d.parameters.length) = some (sx_ia (sx_mt mi).2)) else decide ((parseMethodDescriptor q.1.desc).map (fun d => d.parameters.length + 1) = some (sx_ia (sx_mt mi).2))
def sx_Mok (mi : Nat) (q : sx_M) : Prop := (∃ len, sx_mw q (sx_mt mi).1 len = true) ∧ sx_im (sx_mt mi).2 = q.2.2.1 ∧ plainFor q.1 = true ∧ (q.1.cls ≠ "java/lang/invoke/MethodHandle" ∧ q.1.cls ≠ "java/lang/invoke/VarHandle") ∧ sx_hB (sx_ihd (sx_mt mi).2) q = true ∧ (mi ≠ 0 → sx_nB mi q = true ∧ (q.2.2.2.2 = [] → Cond.code q.1 q.2.1 q.2.2.1 q.2.2.2.1 ∈ sx_wl) ∧ (q.2.2.2.2 ≠ [] → Cond.codeWith q.1 q.2.1 q.2.2.1 q.2.2.2.1 q.2.2.2.2 ∈ sx_wl))
def sx_MO : Prop := ∀ (mi : Nat) (q : sx_M), sx_ms[mi]? = some q → 0 < (sx_mt mi).1 → sx_Mok mi q
/-- a method of the tables, in a state that has their words -/
theorem sx_meth {mj : Nat} {r : sx_M} (hT : sx_Tb D K s) (h0 : mj ≠ 0) (hM : sx_Mok mj r) : ∃ (mk : MethodId) (methk : Method) (ck : Code), s.methodNamed? r.1 = some mk ∧ s.vm.method? mk = some methk ∧ methk.code = some ck ∧ ck.code = r.2.1 ∧ ck.maxLocals = r.2.2.1 ∧ methk.sig.returnType = r.2.2.2.1 ∧ methk.locks = false ∧ ck.exceptionTable.toList.map (fun h => (h.startPc, h.endPc, h.handlerPc, h.catchType)) = r.2.2.2.2 ∧ parseMethodDescriptor r.1.desc = some methk.sig ∧ methk.name = r.1.name := by
  by_cases he : r.2.2.2.2 = []
  · have hw := (hM.2.2.2.2.2 h0).2.1 he
    have hc := hT.1 #[] _ hw
    obtain ⟨mk, hn⟩ := Cond.code_named hc
    obtain ⟨methk, ck, h1, h2, h3, h4, h5, h6, h7, h8⟩ := Cond.code_spec hn hc
    refine ⟨mk, methk, ck, hn, h1, h2, h3, h4, h5, h6, ?_, h8, (name_of_methodNamed hn h1).1⟩
    rw [he]
    have h9 : ck.exceptionTable.size = 0 := by simpa [Array.isEmpty] using h7
    rw [List.eq_nil_of_length_eq_zero (by simpa using h9 : ck.exceptionTable.toList.length = 0)]
    rfl
  · have hw := (hM.2.2.2.2.2 h0).2.2 he
    obtain ⟨mk, methk, ck, hn, h1, h2, h3, h4, h5, h6, h7, h8⟩ := Cond.codeWith_spec (args := #[]) (hT.1 #[] _ hw)
    exact ⟨mk, methk, ck, hn, h1, h2, h3, h4, h6, h7, h5, h8, (name_of_methodNamed hn h1).1⟩
theorem sx_lower {g : JFrame} {t1 t2 : State} (h : Steps p.tables e (.java g :: below) t1 t2) : Steps p.tables e below t1 t2 := by
  obtain ⟨k, h1, h2⟩ := h
  exact ⟨k, h1, fun j hj => (h2 j hj).weaken (mid := [.java g])⟩
/-- an invocation: the machine comes to its entry -/
def sx_Fi (p : Program) (l : Launch) (e : Env) (R : Room) (s : State) (m : MethodId) (args : Array Value) (below : List Frame) (meth : Method) (c : Code) (T : State) (locs : List Loc) (cells slots : Nat) (g : JFrame) (rest : List Value) (y : MethodName) (av : List Value) : Prop :=
  ∃ (vm₁ : Vm) (mk : MethodId) (ig : Instr), Stand p l e R s m args below meth c (T.setVm vm₁) locs cells slots ∧ s.methodNamed? y = some mk ∧ decode c.code g.pc = .ok (ig, 3) ∧ ∀ target, Steps p.tables e below (doInvoke e ((T.setVm vm₁).setTop { g with stack := rest }) [] mk av.toArray).1 target → Steps p.tables e below (T.setTop g) target
theorem sx_pd_ok : ∀ (k : Nat), (sx_pd k).length = k ∧ ∀ (i v : Nat), (sx_pd k)[i]? = some v → v = 7
  | 0 => ⟨rfl, fun i v h => by have h : ([] : List Nat)[i]? = some v := h; simp at h⟩
  | k + 1 => by
    obtain ⟨h1, h2⟩ := sx_pd_ok k
    refine ⟨by show (7 :: sx_pd k).length = k + 1; rw [List.length_cons, h1], fun i v h => ?_⟩
    have h : (7 :: sx_pd k)[i]? = some v := h
    cases i with
    | zero => simp at h; exact h.symm
    | succ i => rw [List.getElem?_cons_succ] at h; exact h2 i v h
/-- arguments as the callee's locals -/
theorem sx_xp_ok : ∀ {av : List Nat} {avs : List Value} {k : Nat} {Lj : List Nat} (i0 : Nat), sx_St b ad rs av avs → sx_xp av k = some Lj → (lg_sl avs).length ≤ k ∧ Lj.length = k ∧ ∀ (i v : Nat), Lj[i]? = some v → v ≠ 7 → ∃ x, (i0 + i, x) ∈ lv_args i0 avs ∧ sx_V b ad rs v x
  | [], avs, k, Lj, i0, hst, h => by
    have e := hst.nil
    subst e
    have h : some (sx_pd k) = some Lj := h
    cases h
    obtain ⟨h1, h2⟩ := sx_pd_ok k
    exact ⟨by simp [lg_sl], h1, fun i v hi h7 => absurd (h2 i v hi) h7⟩
  | v :: t, avs, k, Lj, i0, hst, h => by
    obtain ⟨x, xs, rfl, hv, hst'⟩ := hst.cons
    cases k with
    | zero => cases h
    | succ k =>
      have h : sx_if (Nat.beq (sx_tg v) 4) (Nat.rec none (fun n2 _ => Option.map (fun t => v :: 7 :: t) (sx_xp t n2)) k) (Option.map (fun u => v :: u) (sx_xp t k)) = some Lj := h
      cases h4 : Nat.beq (sx_tg v) 4 with
      | true =>
        rw [h4, sx_if_t] at h
        cases k with
        | zero => cases h
        | succ k =>
          have h : Option.map (fun t => v :: 7 :: t) (sx_xp t k) = some Lj := h
          cases hx : sx_xp t k with
          | none => rw [hx] at h; cases h
          | some t' =>
            rw [hx] at h
            have h : some (v :: 7 :: t') = some Lj := h
            cases h
            obtain ⟨q1, q2, q3⟩ := sx_xp_ok (i0 + 2) hst' hx
            have e := hv.t4 (sx_beq h4)
            subst e
            refine ⟨by simp [lg_sl, Value.category] at q1 ⊢; omega, by simp [q2], fun i u hi h7 => ?_⟩
            match i, hi with
            | 0, hi => simp at hi; subst hi; exact ⟨_, by simp [lv_args], hv⟩
            | 1, hi => simp at hi; exact absurd hi.symm h7
            | i + 2, hi =>
              rw [List.getElem?_cons_succ, List.getElem?_cons_succ] at hi
              obtain ⟨y, hy1, hy2⟩ := q3 i u hi h7
              refine ⟨y, ?_, hy2⟩
              show _ ∈ (i0, _) :: lv_args (if (Value.long (Int64.ofNat (v / 8))).category = 2 then i0 + 2 else i0 + 1) xs
              rw [if_pos (show (Value.long (Int64.ofNat (v / 8))).category = 2 from rfl), show i0 + (i + 2) = i0 + 2 + i by omega]
              exact List.mem_cons_of_mem _ hy1
      | false =>
        rw [h4, sx_if_f] at h
        cases hx : sx_xp t k with
        | none => rw [hx] at h; cases h
        | some t' =>
          rw [hx] at h
          have h : some (v :: t') = some Lj := h
          cases h
          obtain ⟨q1, q2, q3⟩ := sx_xp_ok (i0 + 1) hst' hx
          have hc := hv.c1 (sx_beq_f h4)
          refine ⟨by simp [lg_sl, hc] at q1 ⊢; omega, by simp [q2], fun i u hi h7 => ?_⟩
          cases i with
          | zero => simp at hi; subst hi; exact ⟨x, by simp [lv_args], hv⟩
          | succ i =>
            rw [List.getElem?_cons_succ] at hi
            obtain ⟨y, hy1, hy2⟩ := q3 i u hi h7
            refine ⟨y, ?_, hy2⟩
            show _ ∈ (i0, x) :: lv_args (if x.category = 2 then i0 + 2 else i0 + 1) xs
            rw [if_neg (by rw [hc]; decide), show i0 + (i + 1) = i0 + 1 + i by omega]
            exact List.mem_cons_of_mem _ hy1
theorem sx_tk_ok : ∀ {k : Nat} {S acc : List Nat} {st accv : List Value} {f : List Nat → List Nat → sx_R}, sx_tk k S acc f = some outs → sx_St b ad rs S st → sx_St b ad rs acc accv → ∃ (av rest : List Nat) (avs restv : List Value), f av rest = some outs ∧ sx_St b ad rs av (avs.reverse ++ accv) ∧ sx_St b ad rs rest restv ∧ st = avs ++ restv ∧ avs.length = k ∧ av.length = k + acc.length
  | 0, S, acc, st, accv, f, h, hst, hacc => ⟨acc, S, [], st, h, hacc, hst, rfl, rfl, by simp⟩
  | k + 1, [], acc, st, accv, f, h, hst, hacc => by cases h
  | k + 1, v :: t, acc, st, accv, f, h, hst, hacc => by
    obtain ⟨x, st', rfl, hv, hst'⟩ := hst.cons
    have h : sx_tk k t (v :: acc) f = some outs := h
    obtain ⟨av, rest, avs, restv, h1, h2, h3, h4, h5, h6⟩ := sx_tk_ok h hst' (show sx_St b ad rs (v :: acc) (x :: accv) from ⟨hv, hacc⟩)
    exact ⟨av, rest, x :: avs, restv, h1, by simpa using h2, h3, by rw [h4]; rfl, by simp [h5], by simp at h6 ⊢; omega⟩
end SXCall
