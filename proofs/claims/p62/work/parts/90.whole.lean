/-! THE CLAIM OUT OF ONE WALK OF THE LAW'S BODY. Your part is whole_start (and what it stands on); all else here is the same for every law, but numbers. -/
def R_law : String := "AbsentRingsLaw"
def lw_P (b : Addr) (xs : List Int32) (args : Array Value) (s : State) : Prop := args = #[.ref b] ∧ s.IntsAt b xs ∧ xs.length ≤ 3072 ∧ (Jvm.Cond.and given_1 narrow_1).before args s = true
def lw_Q (_ : Array Value) (s : State) (o : Outcome) (t : State) : Prop := o = .returned (some (.int 1)) ∧ Framed s o t [] 601024 7293034
def lw_Z (below : List Frame) (a : Array Value) (s : State) : State → Prop := fun t => ∃ o, t.status = .running ∧ Ended t below o ∧ lw_Q a s o t
/-- what holds at the law's entry: the machine, the code, the tables' words (any of lw_tbl by 'hts w (by decide +kernel)'), the script of L ints xs at the cell b, what the Statement gives of the start (any of its parts by flat_of_before) -/
def lw_At (p : Program) (s : State) (m : MethodId) (meth : Method) (c : Code) (b L : Nat) (xs : Nat → Int32) : Prop :=
  p.tables.exec = Jvm.exec ∧ c.code = code ∧ meth.sig.returnType = ret ∧ c.maxLocals = 7 ∧ s.vm.findClass R_law = some m.cls ∧ (∀ w ∈ lw_tbl, w.before #[Value.ref b] s = true) ∧ va_X b L xs s s.heap ∧ b < s.heap.size ∧ meth.locks = false ∧ (Jvm.Cond.and given_1 narrow_1).before #[Value.ref b] s = true
theorem sx_b_le (z : Int32) : sx_b z ≤ 4294967295 := by have := sx_b_lt z; omega
theorem sx_y_start {L : Nat} {xs : Nat → Int32} {sy : sx_Y} (hl : sy.length = L) (h : ∀ (k : Nat) (e : Nat × Nat × Nat × Nat), sy[k]? = some e → e.1 ≤ sx_b (xs k) ∧ sx_b (xs k) ≤ e.2.1 ∧ e.2.2.1 = 0 ∧ (e.2.2.2 ≠ 0 → xs k &&& 63 = Int32.ofNat (e.2.2.2 - 1))) : sx_Yok ((List.range L).map xs) sy := by
  refine ⟨by simp [hl], fun k z e hz he => ?_⟩
  obtain ⟨h1, h2, h3, h4⟩ := h k e he
  have hk : k < L := by rw [← hl]; exact (List.getElem?_eq_some_iff.mp he).1
  have hz : xs k = z := by simpa [hk] using hz
  subst hz
  exact ⟨h1, h2, fun h => absurd h3 h, fun _ ho => h4 ho⟩
theorem sx_run_start {L : Nat} {xs : Nat → Int32} (hL : L ≤ 3072) : ∃ (sy : sx_Y) (co : sx_O) (f : Nat), sx_run L f 44 0 sx_c0 [] false 0 [5, 7, 7, 7, 7, 7, 7] [] sx_h0p 0 sy 0 9198 = some [co] ∧ ax_Pl co ∧ sx_Yok ((List.range L).map xs) sy := by
  have hS : ax_Sc L ((List.range L).map (fun k => (sx_b (xs k), sx_b (xs k), 0, 0))) := ⟨by omega, fun i hi => ⟨xs i, (sx_b (xs i), sx_b (xs i), 0, 0), by simp [hi], rfl, rfl⟩⟩
  obtain ⟨co, ⟨f0, hf⟩, hp⟩ := px_law hS hL (ax_vC hS) (gx_vW hS)
  refine ⟨_, co, f0, hf f0 (Nat.le_refl _), hp, sx_y_start (by simp) (fun k e he => ?_)⟩
  have hk : k < L := by
    have := (List.getElem?_eq_some_iff.mp he).1
    simpa using this
  have he : (sx_b (xs k), sx_b (xs k), 0, 0) = e := by simpa [hk] using he
  subst he
  exact ⟨Nat.le_refl _, Nat.le_refl _, rfl, fun h => absurd rfl h⟩
theorem whole_start {p : Program} {e : Env} {s : State} {m : MethodId} {below : List Frame} {meth : Method} {c : Code} (l : Launch) (hfl : l.flags = flags0) {b L : Nat} {xs : Nat → Int32} (hL : L ≤ 3072) (C0 : lw_At p s m meth c b L xs) (hname : meth.name = x.name) (hex : c.exceptionTable.isEmpty = true) : W p l e room_1 s m #[Value.ref b] below meth c s.heap [] 0 0 (lw_Z below #[Value.ref b] s) (entryFrame m ([Value.ref b] : List Value).toArray 7) := by
  obtain ⟨hx, hb, hr, hml, hown, hts, hX, hbl, hlocks, hgv⟩ := C0
  intro T hTH X
  have htr : e.platform.stackTraces = false := Launch.traces_off hfl X.admits
  obtain ⟨D, K, hT⟩ := sx_Tb_start hts hgv
  obtain ⟨bb, hb0, hSx⟩ := sx_Sx_start hts hgv
  subst hb0
  obtain ⟨sy, co, f, hrun, hgood, hY⟩ := sx_run_start (xs := xs) hL
  rw [← sx_mt0] at hrun
  have hav : sx_St bb [] ((List.range L).map xs) [5] [Value.ref (bb 0)] := ⟨Or.inr (Or.inr (Or.inr (Or.inr (Or.inr (Or.inl ⟨rfl, rfl⟩))))), trivial⟩
  obtain ⟨x1, x2, x3⟩ := sx_xp_ok 0 hav (show sx_xp [5] 7 = some [5, 7, 7, 7, 7, 7, 7] from rfl)
  have hent := lv_entry [Value.ref (bb 0)] x1
  have hexT : c.exceptionTable.toList.map (fun h => (h.startPc, h.endPc, h.handlerPc, h.catchType)) = [] := by
    have h9 : c.exceptionTable.size = 0 := by simpa [Array.isEmpty] using hex
    rw [List.eq_nil_of_length_eq_zero (by simpa using h9 : c.exceptionTable.toList.length = 0)]
    rfl
  have key := sx_sound (N := L) sx_MO_ok (by omega) f 44 0 [] false 0 [5, 7, 7, 7, 7, 7, 7] [] sx_h0p 0 sy 0 9198 [co] hrun p l e room_1 s m #[Value.ref (bb 0)] below meth c D K bb xs (fun q => s.heap.size ≤ q) (x, code, maxLocals, ret, []) [] ((List.range L).map xs) _ [] s.heap [] 0 0 (lw_Z below #[Value.ref (bb 0)] s)
    ⟨sx_ms0_eq, hx, htr, hb, hml, hr, hname, hexT, hown, hlocks, hT, hSx, hX, hbl, fun h => absurd hbl (Nat.not_lt.mpr h), fun _ h => h, fun q cell hq hc => absurd (Array.getElem?_eq_some_iff.mp hc).1 (Nat.not_lt.mpr hq), by decide, by decide⟩
    ⟨⟨by rw [hent.1, x2], hent.2.1, fun i v hi h7 => by obtain ⟨y, hy1, hy2⟩ := x3 i v hi h7; rw [Nat.zero_add] at hy1; exact ⟨y, hent.2.2 (i, y) hy1, hy2⟩⟩, trivial, hY, ⟨[], fun k q h => by simp at h, ⟨fun i j p q h => by simp at h, fun k q h => by simp at h⟩, rfl, rfl, by decide, fun k q h => by simp at h⟩, va_S.rf, fun k hk => by simp [hk], by decide, by decide, by rw [hml]; rfl⟩
    (fun _ _ _ _ _ _ _ _ _ _ _ hi => by cases hi)
    (fun o ho t ht => by
      have eo : o = co := List.mem_singleton.mp ho
      subst eo
      obtain ⟨g1, g2, g3, g4⟩ := hgood
      obtain ⟨oc, ad, rs, locs, cells, slots, e1, e2, e3, e4, -, -, -, -, e9, e10, e11, e12⟩ := ht
      have h10 : 600002 + cells ≤ 601024 + o.2.2.2.2.2.1 := e10
      have h11 : 7302232 + slots ≤ 7293034 + o.2.2.2.2.2.2 := e11
      rcases e12 with ⟨k0, -⟩ | ⟨-, y, rfl, hv⟩ | ⟨E, nm, kE, -⟩
      · omega
      · rw [g2] at hv
        have hy := hv.t0 (by decide)
        subst hy
        exact ⟨_, e1, e2, rfl, ⟨_, rfl⟩, e3, State.sameButNew.mono (State.sameButNew.drop_fresh (L := []) (J := locs) e4 (fun z hz => e9.2.2 z hz)) (by omega) (by omega)⟩
      · omega)
  rw [← lg_entry_eq] at key
  exact key T hTH X
set_option maxHeartbeats 4000000 in
theorem lw_walk (l : Launch) (hfl : l.flags = flags0) (b : Addr) (xs : List Int32) : MetFree l x (headSpec (Jvm.Cond.code x code maxLocals ret :: tables_1) room_1) (lw_P b xs) (fun _ _ _ _ _ => True) lw_Q := by
  refine MetFree.of_bodyS (code := code) (maxLocals := maxLocals) (ret := ret) (by decide) ?_ ?_
  · intro args s m h hn
    obtain ⟨meth, c, h1, h2, h3, h4, h5, h6, -, -⟩ := Cond.code_spec hn (atoms_spec (ws := Jvm.Cond.code x code maxLocals ret :: tables_1) h _ List.mem_cons_self)
    exact ⟨meth, c, h1, h2, h3, h4, h5, h6⟩
  · intro p e s m args below meth c s₁ B hml0 hP _
    obtain ⟨rfl, hx, hbd, hgv⟩ := hP
    obtain ⟨scr, harrAt, hlist, hof, hsmall⟩ := hx
    obtain ⟨hcb, hkn, -, -⟩ := State.arrayAt?_spec harrAt
    have hown : s.vm.findClass R_law = some m.cls := findClass_of_methodNamed B.named
    have hts0 : ∀ c ∈ (Jvm.Cond.code x code maxLocals ret :: tables_1), c.before #[Value.ref b] s = true := atoms_spec (ws := Jvm.Cond.code x code maxLocals ret :: tables_1) B.pre
    have hts : ∀ w ∈ lw_tbl, w.before #[Value.ref b] s = true := k2_hts_sels lw_privs (fun w hw => hts0 w (List.mem_cons_of_mem _ hw)) lw_privs_ok
    have hml : c.maxLocals = 7 := B.maxLocals_eq (hts0 _ List.mem_cons_self)
    have X₀ : Stand p l e room_1 s m #[Value.ref b] below meth c s₁ [] 0 0 := Stand.of_body B
    have hh0 : s₁.heap = s.heap := by rw [B.state]; rfl
    have hsz : scr.slots.size = xs.length := by rw [← Array.length_toList, hlist, List.length_map]
    have hval : ∀ j : Nat, j < xs.length → scr.slots[j]? = some (.int (xs.getD j 0)) := fun j hj => by
      rw [← Array.getElem?_toList, hlist]
      simp [hj]
    have hbl : b < s.heap.size := (Array.getElem?_eq_some_iff.mp hcb).1
    have hX : va_X b xs.length (fun j => xs.getD j 0) s s.heap := ⟨scr, hcb, hof, hkn, hsz, hval⟩
    obtain ⟨methx, cx, hmx, hcx, -, -, -, -, hexx, -⟩ := Cond.code_spec B.named (hts0 _ List.mem_cons_self)
    cases B.method.symm.trans hmx
    cases X₀.code.symm.trans hcx
    have K : W p l e room_1 s m #[Value.ref b] below meth c s₁.heap [] 0 0 (lw_Z below #[Value.ref b] s) (entryFrame m ([Value.ref b] : List Value).toArray 7) := by
      rw [hh0]
      exact whole_start l hfl hbd ⟨B.exec, B.bytes, B.returns, hml, hown, hts, hX, hbl, B.notSynchronized, hgv⟩ (name_of_methodNamed B.named B.method).1 hexx
    obtain ⟨t, a1, o, b1, b2, b3⟩ := K s₁ rfl X₀
    exact ⟨t, o, a1, b1, b2, b3⟩
theorem lw_pre_spec {args : Array Value} {s : State} (h : (Jvm.Cond.and given_1 narrow_1).before args s = true) (hr : rest_1_c.before args s = true) : ∃ (b : Addr) (xs : List Int32), lw_P b xs args s := by
  have hs := flat_of_before _ h
  have hq := flat_of_before _ hr
  have hc : (Cond.count 1).before args s = true := hs _ (by decide +kernel)
  have harr : (Cond.arrayOf (.arg 0) .int).before args s = true := hs _ (by decide +kernel)
  have hle : (Cond.le (.length (.arg 0)) (.int 3072)).before args s = true := hs _ (by decide +kernel)
  have hlen : (Cond.isInt (.length (.arg 0))).before args s = true := hq _ (by decide +kernel)
  have hall : (Cond.all (.arg 0) (.isInt (.elem (.arg 0) (.index 0)))).before args s = true := hq _ (by decide +kernel)
  obtain ⟨b, xs, hb, hx⟩ := State.ints_of_pre rfl harr hlen hall
  have hsm : xs.length < 2 ^ 31 := hx.choose_spec.2.2.2
  have hev : (Term.length (.arg 0)).eval args s none [] s = some (.int xs.length.toInt32) := hx.length_eval hb
  have hv := Cond.le_ints hev (show (Term.int 3072).eval args s none [] s = some (.int 3072) from rfl)
  have hd : xs.length.toInt32 ≤ 3072 := by
    simpa [Cond.before, Cond.holds, hv] using hle
  have hN : xs.length ≤ 3072 := (Int32.ofNat_le_ofNat hsm (by decide)).mp (show Int32.ofNat xs.length ≤ Int32.ofNat 3072 from hd)
  exact ⟨b, xs, Cond.one_arg hc (show args[0]? = some (.ref b) from hb), hx, hN, h⟩
theorem lw_comes (l : Launch) (hfl : l.flags = flags0) : Comes l x (Jvm.Cond.code x code maxLocals ret :: tables_1) room_1 (fun tb e args s => Calls_1 tb e args s ∧ rest_1 tb e args s ∧ Pre_1 tb e args s)
    (fun _ _ args s o t => lw_Q args s o t) := by
  intro p e ha hc hk s m args below hf hfit hheap happ hpre
  obtain ⟨b, xs, hP⟩ := lw_pre_spec hpre.2.2 hpre.2.1
  obtain ⟨k, o, h1, h2, h3, hQ⟩ := lw_walk l hfl b xs p e ha hc hk s m args below hf ((Spec.applies_iff_loose hf).mp happ).1 hP trivial
  exact ⟨k, o, h1, h2, h3, hQ⟩
theorem lw_frame {s t : State} {o : Outcome} {args : Array Value} (h : Framed s o t [] 601024 7293034) :
    Framed s o t (fieldLocs frame_1_writes args s ++ arrayLocs frame_1_arrays args s ++ staticLocs frame_1_statics s) 601024 7293034 := h
theorem lw_limb (L : Cond) (hL : ∀ (args : Array Value) (s t : State), L.after args s (.returned (some (.int 1))) t = true) :
    ArmFor flags0 classFile x code maxLocals ret World_1 tables_1 room_1 Calls_1 rest_1 Pre_1
      (fun tb e a s o t => postC L tb e a s o t ∧ Framed s o t (fieldLocs frame_1_writes a s ++ arrayLocs frame_1_arrays a s ++ staticLocs frame_1_statics s) 601024 7293034) := by
  intro l hfl _ _ p e ha hc hk s m args below hf hfit hheap happ hpre
  obtain ⟨k, o, h1, h2, h3, rfl, hF⟩ := lw_comes l hfl p e ha hc hk s m args below hf hfit hheap happ hpre
  exact ⟨k, _, h1, h2, h3, hL args s _, lw_frame hF⟩
theorem i_vc : Claimed_1_1 ∧ Claimed_1_2 := ⟨lw_limb limb_1_1 (fun args s t => by simp [limb_1_1, Cond.after, Cond.holds, Cond.value]), lw_limb limb_1_2 (fun args s t => Cond.after_iff.mpr (by
  first | (rw [show limb_1_2 = Cond.eq .result (.int 1) from rfl, Cond.eq_ints (x := 1) (y := 1) rfl rfl]; simp; done) | (simp [limb_1_2, Cond.value, Term.eval]; done)))⟩
