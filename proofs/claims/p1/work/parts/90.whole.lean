/-! THE CLAIM OUT OF ONE WALK OF THE LAW'S BODY. Your part is whole_start (and what it stands on); all else here is the same for every law, but numbers. -/
def R_law : String := "AbsentRingsLaw"
def lw_P (b : Addr) (xs : List Int32) (args : Array Value) (s : State) : Prop := args = #[.ref b] ∧ s.IntsAt b xs ∧ xs.length ≤ 6 ∧ (Jvm.Cond.and given_1 narrow_1).before args s = true
def lw_Q (_ : Array Value) (s : State) (o : Outcome) (t : State) : Prop := o = .returned (some (.int 1)) ∧ Framed s o t [] 600002 7302232
def lw_Z (below : List Frame) (a : Array Value) (s : State) : State → Prop := fun t => ∃ o, t.status = .running ∧ Ended t below o ∧ lw_Q a s o t
/-- what holds at the law's entry: the machine, the code, the tables' words (any of lw_tbl by 'hts w (by decide +kernel)'), the script of L ints xs at the cell b, what the Statement gives of the start (any of its parts by flat_of_before) -/
def lw_At (p : Program) (s : State) (m : MethodId) (meth : Method) (c : Code) (b L : Nat) (xs : Nat → Int32) : Prop :=
  p.tables.exec = Jvm.exec ∧ c.code = code ∧ meth.sig.returnType = ret ∧ c.maxLocals = 7 ∧ s.vm.findClass R_law = some m.cls ∧ (∀ w ∈ lw_tbl, w.before #[Value.ref b] s = true) ∧ va_X b L xs s s.heap ∧ b < s.heap.size ∧ meth.locks = false ∧ (Jvm.Cond.and given_1 narrow_1).before #[Value.ref b] s = true
theorem sx_b_le (z : Int32) : sx_b z ≤ 4294967295 := by have := sx_b_lt z; omega
theorem sx_y_start {L : Nat} {xs : Nat → Int32} {sy : sx_Y} (hl : sy.length = L) (h : ∀ (k : Nat) (e : Nat × Nat × Nat × Nat), sy[k]? = some e → e.1 ≤ sx_b (xs k) ∧ sx_b (xs k) ≤ e.2.1 ∧ e.2.2.1 = 0 ∧ (e.2.2.2 ≠ 0 → xs k &&& 63 = Int32.ofNat (e.2.2.2 - 1))) : sx_Yok ((List.range L).map xs) sy := by
  refine ⟨by simp [hl], fun k z e hz he => ?_⟩
  obtain ⟨h1, h2, h3, h4⟩ := h k e he
  have hk : k < L := by rw [← hl]; exact (List.getElem?_eq_some_iff.mp he).1
  have hz : xs k = z := by simpa [hk] using hz
  subst hz
  exact ⟨h1, h2, fun h => absurd h3 h, fun _ ho => h4 ho⟩
theorem sx_run_start {L : Nat} {xs : Nat → Int32} (hL : L ≤ 6) : ∃ (sy : sx_Y), sx_law L sy = true ∧ sx_Yok ((List.range L).map xs) sy := by
  have zero : ∀ (sy : sx_Y), sy.length = L → (∀ e ∈ sy, e = (0, 4294967295, 0, 0)) → sx_Yok ((List.range L).map xs) sy := fun sy hl h => sx_y_start hl (fun k e he => by rw [h e (List.mem_of_getElem? he)]; exact ⟨Nat.zero_le _, sx_b_le _, rfl, fun h => absurd rfl h⟩)
  rcases (show L = 0 ∨ L = 1 ∨ L = 2 ∨ L = 3 ∨ L = 4 ∨ L = 5 ∨ L = 6 by omega) with rfl | rfl | rfl | rfl | rfl | rfl | rfl
  · exact ⟨_, sx_n0, zero _ rfl (by simp)⟩
  · exact ⟨_, sx_n1, zero _ rfl (by simp)⟩
  · exact ⟨_, sx_n2, zero _ rfl (by simp)⟩
  · exact ⟨_, sx_n3, zero _ rfl (by simp)⟩
  · exact ⟨_, sx_n4, zero _ rfl (by simp)⟩
  · exact ⟨_, sx_n5, zero _ rfl (by simp)⟩
  · have hc : (xs 0 &&& 63).toBitVec.toNat < 64 := by
      have h1 : (xs 0 &&& 63).toBitVec.toNat = (xs 0).toBitVec.toNat &&& 63 := by
        rw [Int32.toBitVec_and, BitVec.toNat_and]
        rfl
      rw [h1]
      exact Nat.lt_of_le_of_lt Nat.and_le_right (by decide)
    by_cases h17 : (xs 0 &&& 63).toBitVec.toNat = 17
    · have hm : xs 0 &&& 63 = Int32.ofNat 17 := by rw [← h17]; exact (sx_tn_back _).symm
      have far : ∀ lo hi, sx_law 6 (sx_y17 lo hi) = true → lo ≤ sx_b (xs 1) → sx_b (xs 1) ≤ hi → ∃ (sy : sx_Y), sx_law 6 sy = true ∧ sx_Yok ((List.range 6).map xs) sy := fun lo hi h h1 h2 => by
        refine ⟨_, h, sx_y_start rfl (fun k e he => ?_)⟩
        match k, he with
        | 0, he => cases he; exact ⟨Nat.zero_le _, sx_b_le _, rfl, fun _ => hm⟩
        | 1, he => cases he; exact ⟨h1, h2, rfl, fun h => absurd rfl h⟩
        | 2, he => cases he; exact ⟨Nat.zero_le _, sx_b_le _, rfl, fun h => absurd rfl h⟩
        | 3, he => cases he; exact ⟨Nat.zero_le _, sx_b_le _, rfl, fun h => absurd rfl h⟩
        | 4, he => cases he; exact ⟨Nat.zero_le _, sx_b_le _, rfl, fun h => absurd rfl h⟩
        | 5, he => cases he; exact ⟨Nat.zero_le _, sx_b_le _, rfl, fun h => absurd rfl h⟩
        | k + 6, he => simp [sx_y17] at he
      have hb1 := sx_b_le (xs 1)
      rcases (show sx_b (xs 1) ≤ 2147483647 ∨ 2147483656 ≤ sx_b (xs 1) ∨ sx_b (xs 1) = 2147483648 ∨ sx_b (xs 1) = 2147483649 ∨ sx_b (xs 1) = 2147483650 ∨ sx_b (xs 1) = 2147483651 ∨ sx_b (xs 1) = 2147483652 ∨ sx_b (xs 1) = 2147483653 ∨ sx_b (xs 1) = 2147483654 ∨ sx_b (xs 1) = 2147483655 by omega) with h | h | h | h | h | h | h | h | h | h
      · exact far _ _ sx_farL (Nat.zero_le _) h
      · exact far _ _ sx_farH h hb1
      · exact far _ _ sx_far0 (by omega) (by omega)
      · exact far _ _ sx_far1 (by omega) (by omega)
      · exact far _ _ sx_far2 (by omega) (by omega)
      · exact far _ _ sx_far3 (by omega) (by omega)
      · exact far _ _ sx_far4 (by omega) (by omega)
      · exact far _ _ sx_far5 (by omega) (by omega)
      · exact far _ _ sx_far6 (by omega) (by omega)
      · exact far _ _ sx_far7 (by omega) (by omega)
    · refine ⟨_, sx_r_all _ hc h17, sx_y_start rfl (fun k e he => ?_)⟩
      match k, he with
      | 0, he => cases he; exact ⟨Nat.zero_le _, sx_b_le _, rfl, fun _ => (sx_tn_back _).symm⟩
      | 1, he => cases he; exact ⟨Nat.zero_le _, sx_b_le _, rfl, fun h => absurd rfl h⟩
      | 2, he => cases he; exact ⟨Nat.zero_le _, sx_b_le _, rfl, fun h => absurd rfl h⟩
      | 3, he => cases he; exact ⟨Nat.zero_le _, sx_b_le _, rfl, fun h => absurd rfl h⟩
      | 4, he => cases he; exact ⟨Nat.zero_le _, sx_b_le _, rfl, fun h => absurd rfl h⟩
      | 5, he => cases he; exact ⟨Nat.zero_le _, sx_b_le _, rfl, fun h => absurd rfl h⟩
      | k + 6, he => simp [sx_y6] at he
theorem whole_start {p : Program} {e : Env} {s : State} {m : MethodId} {below : List Frame} {meth : Method} {c : Code} (l : Launch) (hfl : l.flags = flags0) {b L : Nat} {xs : Nat → Int32} (hL : L ≤ 6) (C0 : lw_At p s m meth c b L xs) (hname : meth.name = x.name) (hex : c.exceptionTable.isEmpty = true) : W p l e room_1 s m #[Value.ref b] below meth c s.heap [] 0 0 (lw_Z below #[Value.ref b] s) (entryFrame m ([Value.ref b] : List Value).toArray 7) := by
  obtain ⟨hx, hb, hr, hml, hown, hts, hX, hbl, hlocks, hgv⟩ := C0
  intro T hTH X
  have htr : e.platform.stackTraces = false := Launch.traces_off hfl X.admits
  obtain ⟨D, K, hT⟩ := sx_Tb_start hts hgv
  have hSx := sx_Sx_start hts hgv
  obtain ⟨sy, hrun, hY⟩ := sx_run_start (xs := xs) hL
  obtain ⟨outs, hrun, hgood⟩ := sx_ans_ok hrun
  rw [← sx_mt0] at hrun
  have hav : sx_St b [] ((List.range L).map xs) [5] [Value.ref b] := ⟨Or.inr (Or.inr (Or.inr (Or.inr (Or.inr ⟨rfl, rfl⟩)))), trivial⟩
  obtain ⟨x1, x2, x3⟩ := sx_xp_ok 0 hav (show sx_xp [5] 7 = some [5, 7, 7, 7, 7, 7, 7] from rfl)
  have hent := lv_entry [Value.ref b] x1
  have hexT : c.exceptionTable.toList.map (fun h => (h.startPc, h.endPc, h.handlerPc, h.catchType)) = [] := by
    have h9 : c.exceptionTable.size = 0 := by simpa [Array.isEmpty] using hex
    rw [List.eq_nil_of_length_eq_zero (by simpa using h9 : c.exceptionTable.toList.length = 0)]
    rfl
  have key := sx_sound (N := L) sx_MO_ok (by omega) 1000000 40 0 [] false 0 [5, 7, 7, 7, 7, 7, 7] [] sx_h0 0 sy 0 0 outs hrun p l e room_1 s m #[Value.ref b] below meth c D K b xs (fun q => s.heap.size ≤ q) (x, code, maxLocals, ret, []) [] ((List.range L).map xs) _ [] s.heap [] 0 0 (lw_Z below #[Value.ref b] s)
    ⟨sx_ms0_eq, hx, htr, hb, hml, hr, hname, hexT, hown, hlocks, hT, hSx, hX, hbl, fun h => absurd hbl (Nat.not_lt.mpr h), fun _ h => h, fun q cell hq hc => absurd (Array.getElem?_eq_some_iff.mp hc).1 (Nat.not_lt.mpr hq), by decide, by decide⟩
    ⟨⟨by rw [hent.1, x2], hent.2.1, fun i v hi h7 => by obtain ⟨y, hy1, hy2⟩ := x3 i v hi h7; rw [Nat.zero_add] at hy1; exact ⟨y, hent.2.2 (i, y) hy1, hy2⟩⟩, trivial, hY, ⟨[], fun k q h => by simp at h, ⟨fun i j p q h => by simp at h, fun k q h => by simp at h⟩, rfl, rfl, by decide, fun k q h => by simp at h⟩, va_S.rf, fun k hk => by simp [hk], by decide, by decide, by rw [hml]; rfl⟩
    (fun _ _ _ _ _ _ _ _ _ _ _ hi => by cases hi)
    (fun o ho t ht => by
      obtain ⟨g1, g2, g3, g4⟩ := hgood o ho
      obtain ⟨oc, ad, rs, locs, cells, slots, e1, e2, e3, e4, -, -, -, -, e9, e10, e11, e12⟩ := ht
      have h10 : 600002 + cells ≤ 600002 + o.2.2.2.2.2.1 := e10
      have h11 : 7302232 + slots ≤ 7302232 + o.2.2.2.2.2.2 := e11
      rcases e12 with ⟨k0, -⟩ | ⟨-, y, rfl, hv⟩ | ⟨E, nm, kE, -⟩
      · omega
      · rw [g2] at hv
        have hy := hv.t0 (by decide)
        subst hy
        exact ⟨_, e1, e2, rfl, ⟨_, rfl⟩, e3, State.sameButNew.mono (State.sameButNew.drop_fresh (L := []) (J := locs) e4 (fun z hz => e9.2.2 z hz)) (by omega) (by omega)⟩
      · omega)
  rw [← lg_entry_eq] at key
  exact key T hTH X
set_option maxHeartbeats 4000000 in
theorem lw_walk (l : Launch) (hfl : l.flags = flags0) (b : Addr) (xs : List Int32) : MetFree l x (headSpec (Jvm.Cond.code x code maxLocals ret :: tables_1) room_1) (lw_P b xs) (fun _ _ _ _ _ => True) lw_Q := by
  refine MetFree.of_bodyS (code := code) (maxLocals := maxLocals) (ret := ret) (by decide) ?_ ?_
  · intro args s m h hn
    obtain ⟨meth, c, h1, h2, h3, h4, h5, h6, -, -⟩ := Cond.code_spec hn (atoms_spec (ws := Jvm.Cond.code x code maxLocals ret :: tables_1) h _ List.mem_cons_self)
    exact ⟨meth, c, h1, h2, h3, h4, h5, h6⟩
  · intro p e s m args below meth c s₁ B hml0 hP _
    obtain ⟨rfl, hx, hbd, hgv⟩ := hP
    obtain ⟨scr, harrAt, hlist, hof, hsmall⟩ := hx
    obtain ⟨hcb, hkn, -, -⟩ := State.arrayAt?_spec harrAt
    have hown : s.vm.findClass R_law = some m.cls := findClass_of_methodNamed B.named
    have hts0 : ∀ c ∈ (Jvm.Cond.code x code maxLocals ret :: tables_1), c.before #[Value.ref b] s = true := atoms_spec (ws := Jvm.Cond.code x code maxLocals ret :: tables_1) B.pre
    have hts : ∀ w ∈ lw_tbl, w.before #[Value.ref b] s = true := k2_hts_sels lw_privs (fun w hw => hts0 w (List.mem_cons_of_mem _ hw)) lw_privs_ok
    have hml : c.maxLocals = 7 := B.maxLocals_eq (hts0 _ List.mem_cons_self)
    have X₀ : Stand p l e room_1 s m #[Value.ref b] below meth c s₁ [] 0 0 := Stand.of_body B
    have hh0 : s₁.heap = s.heap := by rw [B.state]; rfl
    have hsz : scr.slots.size = xs.length := by rw [← Array.length_toList, hlist, List.length_map]
    have hval : ∀ j : Nat, j < xs.length → scr.slots[j]? = some (.int (xs.getD j 0)) := fun j hj => by
      rw [← Array.getElem?_toList, hlist]
      simp [hj]
    have hbl : b < s.heap.size := (Array.getElem?_eq_some_iff.mp hcb).1
    have hX : va_X b xs.length (fun j => xs.getD j 0) s s.heap := ⟨scr, hcb, hof, hkn, hsz, hval⟩
    obtain ⟨methx, cx, hmx, hcx, -, -, -, -, hexx, -⟩ := Cond.code_spec B.named (hts0 _ List.mem_cons_self)
    cases B.method.symm.trans hmx
    cases X₀.code.symm.trans hcx
    have K : W p l e room_1 s m #[Value.ref b] below meth c s₁.heap [] 0 0 (lw_Z below #[Value.ref b] s) (entryFrame m ([Value.ref b] : List Value).toArray 7) := by
      rw [hh0]
      exact whole_start l hfl hbd ⟨B.exec, B.bytes, B.returns, hml, hown, hts, hX, hbl, B.notSynchronized, hgv⟩ (name_of_methodNamed B.named B.method).1 hexx
    obtain ⟨t, a1, o, b1, b2, b3⟩ := K s₁ rfl X₀
    exact ⟨t, o, a1, b1, b2, b3⟩
theorem lw_pre_spec {args : Array Value} {s : State} (h : (Jvm.Cond.and given_1 narrow_1).before args s = true) (hr : rest_1_c.before args s = true) : ∃ (b : Addr) (xs : List Int32), lw_P b xs args s := by
  have hs := flat_of_before _ h
  have hq := flat_of_before _ hr
  have hc : (Cond.count 1).before args s = true := hs _ (by decide +kernel)
  have harr : (Cond.arrayOf (.arg 0) .int).before args s = true := hs _ (by decide +kernel)
  have hle : (Cond.le (.length (.arg 0)) (.int 6)).before args s = true := hs _ (by decide +kernel)
  have hlen : (Cond.isInt (.length (.arg 0))).before args s = true := hq _ (by decide +kernel)
  have hall : (Cond.all (.arg 0) (.isInt (.elem (.arg 0) (.index 0)))).before args s = true := hq _ (by decide +kernel)
  obtain ⟨b, xs, hb, hx⟩ := State.ints_of_pre rfl harr hlen hall
  have hsm : xs.length < 2 ^ 31 := hx.choose_spec.2.2.2
  have hev : (Term.length (.arg 0)).eval args s none [] s = some (.int xs.length.toInt32) := hx.length_eval hb
  have hv := Cond.le_ints hev (show (Term.int 6).eval args s none [] s = some (.int 6) from rfl)
  have hd : xs.length.toInt32 ≤ 6 := by
    simpa [Cond.before, Cond.holds, hv] using hle
  have hN : xs.length ≤ 6 := (Int32.ofNat_le_ofNat hsm (by decide)).mp (show Int32.ofNat xs.length ≤ Int32.ofNat 6 from hd)
  exact ⟨b, xs, Cond.one_arg hc (show args[0]? = some (.ref b) from hb), hx, hN, h⟩
theorem lw_comes (l : Launch) (hfl : l.flags = flags0) : Comes l x (Jvm.Cond.code x code maxLocals ret :: tables_1) room_1 (fun tb e args s => Calls_1 tb e args s ∧ rest_1 tb e args s ∧ Pre_1 tb e args s)
    (fun _ _ args s o t => lw_Q args s o t) := by
  intro p e ha hc hk s m args below hf hfit hheap happ hpre
  obtain ⟨b, xs, hP⟩ := lw_pre_spec hpre.2.2 hpre.2.1
  obtain ⟨k, o, h1, h2, h3, hQ⟩ := lw_walk l hfl b xs p e ha hc hk s m args below hf ((Spec.applies_iff_loose hf).mp happ).1 hP trivial
  exact ⟨k, o, h1, h2, h3, hQ⟩
theorem lw_frame {s t : State} {o : Outcome} {args : Array Value} (h : Framed s o t [] 600002 7302232) :
    Framed s o t (fieldLocs frame_1_writes args s ++ arrayLocs frame_1_arrays args s ++ staticLocs frame_1_statics s) 600002 7302232 := h
theorem lw_limb (L : Cond) (hL : ∀ (args : Array Value) (s t : State), L.after args s (.returned (some (.int 1))) t = true) :
    ArmFor flags0 classFile x code maxLocals ret World_1 tables_1 room_1 Calls_1 rest_1 Pre_1
      (fun tb e a s o t => postC L tb e a s o t ∧ Framed s o t (fieldLocs frame_1_writes a s ++ arrayLocs frame_1_arrays a s ++ staticLocs frame_1_statics s) 600002 7302232) := by
  intro l hfl _ _ p e ha hc hk s m args below hf hfit hheap happ hpre
  obtain ⟨k, o, h1, h2, h3, rfl, hF⟩ := lw_comes l hfl p e ha hc hk s m args below hf hfit hheap happ hpre
  exact ⟨k, _, h1, h2, h3, hL args s _, lw_frame hF⟩
theorem i_vc : Claimed_1_1 ∧ Claimed_1_2 := ⟨lw_limb limb_1_1 (fun args s t => by simp [limb_1_1, Cond.after, Cond.holds, Cond.value]), lw_limb limb_1_2 (fun args s t => Cond.after_iff.mpr (by
  first | (rw [show limb_1_2 = Cond.eq .result (.int 1) from rfl, Cond.eq_ints (x := 1) (y := 1) rfl rfl]; simp; done) | (simp [limb_1_2, Cond.value, Term.eval]; done)))⟩
