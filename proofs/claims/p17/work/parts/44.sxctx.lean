/-! sx: where a run stands -/
def sx_wl : List Cond := lw_tbl.filter goodWord
theorem sx_wl_in {w : Cond} (h : w ∈ sx_wl) : w ∈ lw_tbl ∧ goodWord w = true := List.mem_filter.mp h
def sx_Tb (D : va_G) (K : ClassId → FieldType → Prop) (s : State) : Prop :=
  (∀ a : Array Value, ∀ w ∈ sx_wl, w.before a s = true) ∧
  (∀ q ∈ sx_nl, va_Nw (.methodLinkNest q.1 q.2.1 q.2.2.1 q.2.2.2) s) ∧
  ((∀ q ∈ sx_sr, ∃ a, vk_R q.1 q.2.1 q.2.2 a s) ∧ (∀ x ∈ sx_exc, va_Nw (.castable x x) s) ∧ va_Nw (.declares (Bundle.initS "java/lang/RuntimeException")) s ∧ va_Nw (.declares (Bundle.initS "java/lang/Exception")) s ∧ va_Nw (.declares (Bundle.initS Bundle.tN)) s) ∧
  (∀ x ∈ sx_exc, ∀ y ∈ sx_exc, ∃ cx cy, s.vm.findClass x = some cx ∧ s.vm.findClass y = some cy ∧ (s.vm.assignable cx cy = true ↔ x = y)) ∧
  va_AO "AbsentRings$Table" s ∧ va_K D sx_classes [] s ∧ ∀ cA ty, K cA ty ↔ (ArrOfT s cA ty ∧ va_RA s cA ty)
theorem sx_Tb.warm {D : va_G} {K : ClassId → FieldType → Prop} {s U : State} (hW : s.WarmedH U.vm) (h : sx_Tb D K s) : sx_Tb D K U := by
  obtain ⟨h1, h2, h3, h4, h5, h6, h7⟩ := h
  refine ⟨fun a w hw => word_at (args := #[]) hW (good_of_word (sx_wl_in hw).2) (h1 _ w hw), fun q hq => va_Nw.warmM hW (h2 q hq), ⟨fun q hq => by obtain ⟨a, ha⟩ := h3.1 q hq; exact ⟨a, ha.warm hW⟩, fun x hx => va_Nw.warmC hW (h3.2.1 x hx), va_Nw.warmD hW h3.2.2.1, va_Nw.warmD hW h3.2.2.2.1, va_Nw.warmD hW h3.2.2.2.2⟩, fun x hx y hy => ?_, va_AO.moved hW.alike h5, va_K.moved hW.alike h6, fun cA ty => ?_⟩
  · obtain ⟨cx, cy, q1, q2, q3⟩ := h4 x hx y hy
    exact ⟨cx, cy, by rw [hW.alike.findClass]; exact q1, by rw [hW.alike.findClass]; exact q2, by rw [hW.alike.assignable]; exact q3⟩
  · rw [h7]
    exact ⟨fun q => ⟨arrOfT_moved hW.alike q.1, q.2.moved hW.alike⟩, fun q => ⟨arrOfT_moved hW.alike.symm q.1, q.2.moved hW.alike.symm⟩⟩
/-- what Throwable's constructor reads of statics -/
def sx_Z1 (n d : String) (A : Nat → Prop) (s : State) (H : Heap) : Prop := ∃ (c : ClassId) (k : Class) (i : Nat) (f : Field) (a : Nat) (cell : Cell) (u : RefV), s.vm.findClass Bundle.tN = some c ∧ s.fieldFound? Bundle.tN n d = some (c, k, i, f) ∧ f.isStatic = true ∧ k.statics = some a ∧ H[a]? = some cell ∧ cell.vm.isStatics = true ∧ cell.cls = c ∧ f.slot < cell.slots.size ∧ k.staticTypes[f.slot]? = some f.type ∧ cell.slots[f.slot]? = some u.v ∧ ¬ A a
theorem sx_Z1.moved {n d : String} {A : Nat → Prop} {s U : State} {H : Heap} (hvm : s.vm.Alike U.vm) (h : sx_Z1 n d A s H) : sx_Z1 n d A U H := by
  obtain ⟨c, k, i, f, a, cell, u, h1, h2, h3, h4, h5, h6, h7, h8, h9, h10, h11⟩ := h
  obtain ⟨k', hi', he⟩ := State.fieldFound?_setVm hvm h2
  exact ⟨c, k', i, f, a, cell, u, by rw [hvm.findClass]; exact h1, hi', h3, by rw [he]; exact h4, h5, h6, h7, h8, by rw [he]; exact h9, h10, h11⟩
theorem sx_Z1.kept {n d : String} {A : Nat → Prop} {s : State} {H H1 : Heap} (h : sx_Z1 n d A s H) (hq : ∀ a : Nat, a < H.size → ¬ A a → H1[a]? = H[a]?) : sx_Z1 n d A s H1 := by
  obtain ⟨c, k, i, f, a, cell, u, h1, h2, h3, h4, h5, h6, h7, h8, h9, h10, h11⟩ := h
  exact ⟨c, k, i, f, a, cell, u, h1, h2, h3, h4, by rw [hq a (Array.getElem?_eq_some_iff.mp h5).1 h11]; exact h5, h6, h7, h8, h9, h10, h11⟩
theorem sx_Z1.narrow {n d : String} {A B : Nat → Prop} {s : State} {H : Heap} (h : sx_Z1 n d A s H) (hAB : ∀ q, q < H.size → B q → A q) : sx_Z1 n d B s H := by
  obtain ⟨c, k, i, f, a, cell, u, h1, h2, h3, h4, h5, h6, h7, h8, h9, h10, h11⟩ := h
  exact ⟨c, k, i, f, a, cell, u, h1, h2, h3, h4, h5, h6, h7, h8, h9, h10, fun q => h11 (hAB a (Array.getElem?_eq_some_iff.mp h5).1 q)⟩
theorem sx_Z1.lays {n d : String} {A : Nat → Prop} {s : State} {args : Array Value} (h : sx_Z1 n d A s s.heap) : (Cond.laysStatic Bundle.tN n d).before args s = true := by
  obtain ⟨c, k, i, f, a, cell, u, h1, h2, h3, h4, h5, h6, h7, h8, h9, h10, h11⟩ := h
  exact Cond.laysStatic_of h1 h2 h3 h4 h5 h6 h7 h8 h9
theorem sx_Z1.isRef {n d : String} {A : Nat → Prop} {s : State} {args : Array Value} (h : sx_Z1 n d A s s.heap) : (Cond.isRef (.static Bundle.tN n d)).before args s = true := by
  obtain ⟨c, k, i, f, a, cell, ⟨v, hv⟩, h1, h2, h3, h4, h5, h6, h7, h8, h9, h10, h11⟩ := h
  have e : (Term.static Bundle.tN n d).eval args s none [] s = some v := Term.static_eval h2 h3 h4 h5 h6 h10
  cases v <;> simp [Value.isRef] at hv <;> simp [Cond.before, Cond.holds, Cond.value, e]
/-- known things beside the script: the Strings, their bytes, two statics, what SIOOBE_FORMATTER holds, and that readLine is declared -/
def sx_rl : MethodName := ⟨"AbsentRings$Text", "readLine", "()Z"⟩
def sx_Kx (b : Nat → Nat) (A : Nat → Prop) (s : State) (H : Heap) : Prop :=
  (∀ (k : Nat) (q : String × Nat × String), sx_sr[k]? = some q → vk_R q.1 q.2.1 q.2.2 (b (2 + k)) s ∧ va_O "java/lang/String" (b (2 + k)) A s H ∧ va_OF "java/lang/String" "coder" "B" (.int 0) (b (2 + k)) A s H ∧ va_OF "java/lang/String" "value" "[B" (.ref (b (2 + k + sx_ns))) (b (2 + k)) A s H) ∧
  (∀ (k : Nat) (t : List Nat), sx_sb[k]? = some t → va_T .byte (b (2 + sx_ns + k)) t.length (fun j => .int (Int32.ofNat (t.getD j 0))) A s H) ∧
  (va_Z "java/lang/String" "COMPACT_STRINGS" "Z" (.int 1) A s H ∧ va_Z "AbsentRings$Sides" "ORDERS" "[I" (.ref (b 1)) A s H ∧ va_T .int (b 1) 9 (fun j => .int (Int32.ofNat (sx_ordv.getD j 0))) A s H) ∧
  (∃ u : Value, u.category = 1 ∧ va_Z "jdk/internal/util/Preconditions" "SIOOBE_FORMATTER" "Ljava/util/function/BiFunction;" u A s H) ∧ va_Nw (.declares sx_rl) s
theorem sx_Kx.warm {b : Nat → Nat} {A : Nat → Prop} {s U : State} {H : Heap} (hW : s.WarmedH U.vm) (h : sx_Kx b A s H) : sx_Kx b A U H := by
  obtain ⟨h1, h2, ⟨h3, h4, h5⟩, ⟨u, hu, h6⟩, h7⟩ := h
  exact ⟨fun k q hq => ⟨(h1 k q hq).1.warm hW, va_O.moved hW.alike (h1 k q hq).2.1, va_OF.moved hW.alike (h1 k q hq).2.2.1, va_OF.moved hW.alike (h1 k q hq).2.2.2⟩, fun k t ht => va_T.moved hW.alike (h2 k t ht), ⟨va_Z.moved hW.alike h3, va_Z.moved hW.alike h4, va_T.moved hW.alike h5⟩, ⟨u, hu, va_Z.moved hW.alike h6⟩, va_Nw.warmD hW h7⟩
theorem sx_Kx.kept {b : Nat → Nat} {A : Nat → Prop} {s : State} {H H1 : Heap} (h : sx_Kx b A s H) (hq : ∀ a : Nat, a < H.size → ¬ A a → H1[a]? = H[a]?) : sx_Kx b A s H1 := by
  obtain ⟨h1, h2, ⟨h3, h4, h5⟩, ⟨u, hu, h6⟩, h7⟩ := h
  exact ⟨fun k q hk => ⟨(h1 k q hk).1, (h1 k q hk).2.1.kept hq, (h1 k q hk).2.2.1.kept hq, (h1 k q hk).2.2.2.kept hq⟩, fun k t ht => (h2 k t ht).kept hq, ⟨h3.kept hq, h4.kept hq, h5.kept hq⟩, ⟨u, hu, h6.kept hq⟩, h7⟩
theorem sx_Kx.narrow {b : Nat → Nat} {A B : Nat → Prop} {s : State} {H : Heap} (h : sx_Kx b A s H) (hAB : ∀ q, B q → A q) : sx_Kx b B s H := by
  obtain ⟨h1, h2, ⟨h3, h4, h5⟩, ⟨u, hu, h6⟩, h7⟩ := h
  exact ⟨fun k q hk => ⟨(h1 k q hk).1, (h1 k q hk).2.1.narrow hAB, (h1 k q hk).2.2.1.narrow hAB, (h1 k q hk).2.2.2.narrow hAB⟩, fun k t ht => (h2 k t ht).narrow hAB, ⟨h3.narrow hAB, h4.narrow hAB, h5.narrow hAB⟩, ⟨u, hu, h6.narrow hAB⟩, h7⟩
def sx_Sx (b : Nat → Nat) (A : Nat → Prop) (s : State) (H : Heap) : Prop := sx_Z1 "UNASSIGNED_STACK" Bundle.steD A s H ∧ sx_Z1 "SUPPRESSED_SENTINEL" Bundle.listD A s H ∧ sx_Kx b A s H
section SXCtx
variable (p : Program) (l : Launch) (e : Env) (R : Room) (s : State) (m : MethodId) (args : Array Value) (below : List Frame) (meth : Method) (c : Code)
variable (D : va_G) (K : ClassId → FieldType → Prop) (b : Nat → Nat) (N : Nat) (xs : Nat → Int32) (A : Nat → Prop)
def sx_Cx (mi d : Nat) (q : sx_M) : Prop :=
  sx_ms[mi]? = some q ∧ p.tables.exec = Jvm.exec ∧ e.platform.stackTraces = false ∧ c.code = q.2.1 ∧ c.maxLocals = q.2.2.1 ∧ meth.sig.returnType = q.2.2.2.1 ∧ meth.name = q.1.name ∧
  c.exceptionTable.toList.map (fun h => (h.startPc, h.endPc, h.handlerPc, h.catchType)) = q.2.2.2.2 ∧ s.vm.findClass q.1.cls = some m.cls ∧ meth.locks = false ∧
  sx_Tb D K s ∧ sx_Sx b A s s.heap ∧ va_X (b 0) N xs s s.heap ∧ b 0 < s.heap.size ∧ ¬ A (b 0) ∧ (∀ q, s.heap.size ≤ q → A q) ∧ (∀ (q : Nat) (cell : Cell), A q → s.heap[q]? = some cell → cell.vm.isStatics = false) ∧ d + 8 ≤ R.frames ∧ 100 * (d + 2) ≤ R.locals
def sx_At (ad : List Nat) (rs : List Int32) (cells slots : Nat) (locs : List Loc) (L S : List Nat) (h : sx_H) (n : Nat) (sy : sx_Y) (cs ss : Nat) (ls : Array Slot) (st : List Value) (H : Heap) : Prop :=
  sx_Lc b ad rs L ls ∧ sx_St b ad rs S st ∧ sx_Yok rs sy ∧ sx_G D K b A ad rs h n H ∧ va_S A s.heap H locs ∧ (∀ k, k < N → rs[k]? = some (xs k)) ∧ 600002 + cells ≤ R.cells + cs ∧ 7302232 + slots ≤ R.slots + ss ∧ L.length = c.maxLocals
def sx_Oc (ad : List Nat) (rs : List Int32) (kd v : Nat) (oc : Outcome) (t : State) : Prop :=
  (kd = 0 ∧ oc = .returned none) ∨ (kd = 1 ∧ ∃ x, oc = .returned (some x) ∧ sx_V b ad rs v x) ∨
  (∃ E nm, kd = E + 2 ∧ sx_exc[E]? = some nm ∧ ∃ (a : Addr) (cell : Cell), oc = .threw a ∧ t.heap[a]? = some cell ∧ s.vm.findClass nm = some cell.cls ∧ cell.vm = .none)
def sx_En (ad0 : List Nat) (rs0 : List Int32) (o : sx_O) (t : State) : Prop :=
  ∃ (oc : Outcome) (ad : List Nat) (rs : List Int32) (locs : List Loc) (cells slots : Nat), t.status = .running ∧ Ended t below oc ∧ s.WarmedH t.vm ∧ s.sameButNew ({ t with vm := s.vm } : State) locs cells slots ∧
    ad0 <+: ad ∧ rs0 <+: rs ∧ sx_Yok rs o.2.2.2.2.1 ∧ sx_G D K b A ad rs o.2.2.1 o.2.2.2.1 t.heap ∧ va_S A s.heap t.heap locs ∧ 600002 + cells ≤ R.cells + o.2.2.2.2.2.1 ∧ 7302232 + slots ≤ R.slots + o.2.2.2.2.2.2 ∧ sx_Oc s b ad rs o.1 o.2.1 oc t
/-- a loop's head: what its state has of symbols, and that the machine goes on from each of its states of less rank -/
def sx_Lx (Q : State → Prop) (ad : List Nat) (rs : List Int32) (pc0 : Nat) (L0 : List Nat) (h0 : sx_H) (n0 : Nat) (sy0 : sx_Y) (k0 r : Nat) (pl : List (Nat × Nat × Nat)) (cs0 ss0 : Nat) : Prop :=
  ∃ (rp : List Int32) (z1 z2 : Int32) (yp : sx_Y) (c0 j0 l1 u1 l2 u2 : Nat), pl = [(c0, j0, 0)] ∧ rp.length = k0 ∧ rp ++ [z1, z2] <+: rs ∧ sx_Yok rp yp ∧ sy0 = yp ++ [(l1, u1, 0, 0), (l2, u2, 0, 0)] ∧ (∀ k, k < N → rp[k]? = some (xs k)) ∧
    L0[r]? = some (8 * k0 + 1) ∧ (∀ i v, L0[i]? = some v → i ≠ r → v % 8 = 1 → v / 8 < k0) ∧ (∀ k j, k < n0 → j < (sx_rd h0 k).1 / 256 → ¬ (k = c0 ∧ j = j0) → sx_get (sx_rd h0 k).2 j % 8 = 1 → sx_get (sx_rd h0 k).2 j / 8 < k0) ∧
    ∀ (ad' : List Nat) (y1 y2 : Int32) (ls' : Array Slot) (st' : List Value) (H' : Heap) (locs' : List Loc) (cells' slots' : Nat), ad <+: ad' → sx_At R s c D K b N xs A ad' (rp ++ [y1, y2]) cells' slots' locs' L0 [] h0 n0 sy0 cs0 ss0 ls' st' H' → sx_b z1 < sx_b y1 →
      W p l e R s m args below meth c H' locs' cells' slots' Q (F0 m pc0 ls' st')
def sx_Ls (Q : State → Prop) (ad : List Nat) (rs : List Int32) (lst : List sx_I) : Prop :=
  ∀ (pc0 : Nat) (L0 S0 : List Nat) (h0 : sx_H) (n0 : Nat) (sy0 : sx_Y) (k0 r : Nat) (pl : List (Nat × Nat × Nat)) (cs0 ss0 : Nat), (pc0, L0, S0, h0, n0, sy0, k0, r, pl, cs0, ss0) ∈ lst → sx_Lx p l e R s m args below meth c D K b N xs A Q ad rs pc0 L0 h0 n0 sy0 k0 r pl cs0 ss0
end SXCtx
section SXCtx2
variable {p : Program} {l : Launch} {e : Env} {R : Room} {s : State} {m : MethodId} {args : Array Value} {below : List Frame} {meth : Method} {c : Code}
variable {D : va_G} {K : ClassId → FieldType → Prop} {b : Nat → Nat} {N : Nat} {xs : Nat → Int32} {A : Nat → Prop}
theorem sx_Ls.mono {Q : State → Prop} {ad ad' : List Nat} {rs rs' : List Int32} {lst : List sx_I} (h : sx_Ls p l e R s m args below meth c D K b N xs A Q ad rs lst) (ha : ad <+: ad') (hr : rs <+: rs') : sx_Ls p l e R s m args below meth c D K b N xs A Q ad' rs' lst := by
  intro pc0 L0 S0 h0 n0 sy0 k0 r pl cs0 ss0 hi
  obtain ⟨rp, z1, z2, yp, c0, j0, l1, u1, l2, u2, q1, q2, q3, q4, q5, q6, q7, q8, q9, q10⟩ := h pc0 L0 S0 h0 n0 sy0 k0 r pl cs0 ss0 hi
  exact ⟨rp, z1, z2, yp, c0, j0, l1, u1, l2, u2, q1, q2, q3.trans hr, q4, q5, q6, q7, q8, q9, fun ad2 y1 y2 ls2 st2 H2 locs2 cells2 slots2 a1 => q10 ad2 y1 y2 ls2 st2 H2 locs2 cells2 slots2 (ha.trans a1)⟩
theorem sx_En.mono {ad ad' : List Nat} {rs rs' : List Int32} {o : sx_O} {t : State} (h : sx_En R s below D K b A ad' rs' o t) (ha : ad <+: ad') (hr : rs <+: rs') : sx_En R s below D K b A ad rs o t := by
  obtain ⟨oc, ad2, rs2, locs, cells, slots, h1, h2, h3, h4, h5, h6, h7⟩ := h
  exact ⟨oc, ad2, rs2, locs, cells, slots, h1, h2, h3, h4, ha.trans h5, hr.trans h6, h7⟩
end SXCtx2
/-- the executor is right where it ends -/
def sx_mt (mi : Nat) : sx_C := if mi < 256 then sx_rd sx_prog mi else sx_rd sx_qrog (mi - 256)
theorem sx_mtK_eq (mi : Nat) (k : Nat → Nat → sx_R) : sx_mtK mi k = k (sx_mt mi).1 (sx_mt mi).2 := by
  unfold sx_mtK sx_mt
  simp only [sx_rdK_eq]
  by_cases h : mi < 256
  · rw [sx_blt_t h, sx_if_t, if_pos h]
  · rw [sx_blt_e h, sx_if_f, if_neg h]
    rfl
def sx_Ok (N : Nat) (ih : sx_ih) : Prop := ∀ (d mi : Nat) (lst : List sx_I) (fl : Bool) (pc : Nat) (L S : List Nat) (h : sx_H) (n : Nat) (sy : sx_Y) (cs ss : Nat) (outs : List sx_O), ih d mi (sx_mt mi).1 lst fl pc L S h n sy cs ss = some outs →
  ∀ (p : Program) (l : Launch) (e : Env) (R : Room) (s : State) (m : MethodId) (args : Array Value) (below : List Frame) (meth : Method) (c : Code) (D : va_G) (K : ClassId → FieldType → Prop) (b : Nat → Nat) (xs : Nat → Int32) (A : Nat → Prop) (q : sx_M)
    (ad : List Nat) (rs : List Int32) (ls : Array Slot) (st : List Value) (H : Heap) (locs : List Loc) (cells slots : Nat) (Q : State → Prop),
    sx_Cx p e R s m meth c D K b N xs A mi d q → sx_At R s c D K b N xs A ad rs cells slots locs L S h n sy cs ss ls st H → sx_Ls p l e R s m args below meth c D K b N xs A Q ad rs lst →
    (∀ o ∈ outs, ∀ t, sx_En R s below D K b A ad rs o t → Q t) → W p l e R s m args below meth c H locs cells slots Q (F0 m pc ls st)
