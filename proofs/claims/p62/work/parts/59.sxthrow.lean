/-! sx: a throw -/
section SXThrow
variable {N : Nat} {ih : sx_ih} {w d mi pc n cs ss : Nat} {lst : List sx_I} {L S : List Nat} {h : sx_H} {sy : sx_Y} {outs : List sx_O}
variable {p : Program} {l : Launch} {e : Env} {R : Room} {s : State} {m : MethodId} {args : Array Value} {below : List Frame} {meth : Method} {c : Code} {D : va_G} {K : ClassId → FieldType → Prop} {b : Nat → Nat} {xs : Nat → Int32} {A : Nat → Prop} {q : sx_M}
variable {ad : List Nat} {rs : List Int32} {ls : Array Slot} {st : List Value} {H : Heap} {locs : List Loc} {cells slots : Nat} {Q : State → Prop}
/-- a constructor that hands its text on to another class's, by whatever entry -/
def sx_Ch (pl : Platform) (s : State) (X : String) (len : Nat) : Prop := ∀ top : MethodId, s.methodNamed? (Bundle.initS Bundle.tN) = some top → ∃ (P1 : PassC) (Ps : List PassC), Ps.length = len ∧ P1.LinksS pl s ∧ (∀ P, P ∈ Ps → P.LinksS pl s) ∧ s.methodNamed? (Bundle.initS X) = some P1.m ∧ P1.sup = firstOf top (Ps.map (·.toPassT)) ∧ PassesOn top (Ps.map (·.toPassT))
set_option maxHeartbeats 2000000 in
theorem sx_ctor {W : State} {own X : String} {ic len maxL : Nat} {bts : ByteArray} {a : Addr} {cX : ClassId} {kX : Class} {msg : Value} {g : JFrame} {rest : List Value} (St : Stand p l e R s m args below meth c W locs cells slots) (hexec : p.tables.exec = Jvm.exec) (htr : e.platform.stackTraces = false) (hown : s.vm.findClass own = some m.cls)
    (hX : Bundle.fit X = true) (hch : sx_Ch e.platform s X len)
    (h1 : ∀ w ∈ Bundle.throwableAtoms ++ Bundle.throwableSAtoms, w.before args s = true) (hlink : (Cond.methodLink own ic (Bundle.initS X)).before args s = true) (hins : (Cond.instantiable X 6).before args s = true) (hinm : (Cond.instanceMethod (Bundle.initS X)).before args s = true) (hcod : (Cond.code (Bundle.initS X) bts maxL none).before args s = true)
    (hse0 : (Cond.selects X Bundle.tFill0 Bundle.tFill0).before args s = true) (hseF : (Cond.selects X Bundle.tFill Bundle.tFill).before args s = true)
    (hlC : (Cond.lays X Bundle.tN "cause" "Ljava/lang/Throwable;").before args s = true) (hlS : (Cond.lays X Bundle.tN "stackTrace" Bundle.steD).before args s = true) (hlP : (Cond.lays X Bundle.tN "suppressedExceptions" Bundle.listD).before args s = true) (hlM : (Cond.lays X Bundle.tN "detailMessage" "Ljava/lang/String;").before args s = true) (hlB : (Cond.lays X Bundle.tN "backtrace" "Ljava/lang/Object;").before args s = true)
    (hbk : (Cond.fieldLink Bundle.tN 198 Bundle.tN "backtrace" "Ljava/lang/Object;").before args s = true) (hbl : (Cond.lays Bundle.tN Bundle.tN "backtrace" "Ljava/lang/Object;").before args s = true)
    (hzU : (Cond.isRef (.static Bundle.tN "UNASSIGNED_STACK" Bundle.steD)).before args s = true) (hzS : (Cond.isRef (.static Bundle.tN "SUPPRESSED_SENTINEL" Bundle.listD)).before args s = true)
    (hlocs : ∀ x ∈ locs, ∀ cell, s.heap[x.base]? = some cell → cell.vm.isStatics = false)
    (hfX : s.vm.findClass X = some cX) (hkX : s.vm.classes[cX]? = some kX) (hcell : W.heap[a]? = some (freshCell cX kX)) (hnew : s.heap.size ≤ a) (hmsg : msg.isRef = true)
    (hg : g.method = m) (hsize : g.locals.size = c.maxLocals) (hlocked : g.locked = none) (hentered : g.entered = []) (hstack : g.stack = msg :: .ref a :: .ref a :: rest)
    (hd6 : decode c.code g.pc = .ok (.invokespecial ic, 3)) (hd9 : decode c.code (g.pc + 3) = .ok (.athrow, 1)) (hout : ∀ x ∈ c.exceptionTable.toList, covers x (g.pc + 3) = false)
    (hRf : len + 3 < R.frames) (hRl : 2 * g.monitorRoom + ((Value.ref a :: rest).map fun v => v.category).sum + (13 * (len + 1) + 42) ≤ R.locals) (hlocks : meth.locks = false) :
    ∃ U : State, Steps p.tables e below (W.setTop g) U ∧ U.status = .running ∧ Ended U below (.threw a) ∧ s.WarmedH U.vm ∧ s.sameButNew ({ U with vm := s.vm } : State) locs cells slots ∧ ∃ ce, U.heap[a]? = some ce ∧ s.vm.findClass X = some ce.cls ∧ ce.vm = .none := by
  have hpl : e.platform.magicAccessors = ({} : Platform).magicAccessors := by rw [St.admits.platform]
  obtain ⟨T, Z0, L, -, Y⟩ := ThrowableC.of_atoms (args := args) (by rw [St.admits.platform]) (by rw [St.admits.platform]) hpl (fun x hx => h1 x (List.mem_append_left _ hx))
  obtain ⟨Z, M, LZ, LM, hnZ⟩ := Init0T.ofS_atoms (args := args) hpl L Y (fun x hx => h1 x (List.mem_append_right _ hx))
  obtain ⟨P1, Ps, hlen, L1, hL, hP1m, hlink1, hlinks⟩ := hch _ hnZ
  have hf1 : s.vm.findClass X = some P1.m.cls := findClass_of_methodNamed hP1m
  cases Option.some.inj (hfX.symm.trans hf1)
  obtain ⟨c1, kX', hc1, hk, hord, -, -, -⟩ := Cond.instantiable_spec hins
  cases Option.some.inj (hc1.symm.trans hfX)
  cases Option.some.inj (hkX.symm.trans hk)
  have sel : ∀ {y : MethodName} {r : MethodId}, s.methodNamed? y = some r → (y.cls ≠ "java/lang/invoke/MethodHandle" ∧ y.cls ≠ "java/lang/invoke/VarHandle") → (Cond.selects X y y).before args s = true → selectMethod e.platform s.vm P1.m.cls r = .method r := by
    intro y r hy hne hs
    obtain ⟨c2, r2, m2, q1, q2, q3, q4, -⟩ := Cond.selects_spec hs
    cases Option.some.inj (q1.symm.trans hfX)
    cases Option.some.inj (q2.symm.trans (State.methodFound?_of_named hy hne))
    cases Option.some.inj (q3.symm.trans hy)
    rw [Launch.admits_selectMethod St.admits]; exact q4
  have hsel0 := sel Y.fill0 (by decide) hse0
  have hselF := sel Y.fill (by decide) hseF
  obtain ⟨cS0, hcS0, hiss⟩ := Y.statics
  obtain ⟨u0, hu0⟩ := Cond.staticRefV Y.unassigned L.unassignedStatic L.statics hcS0 hiss hzU
  obtain ⟨sen, hsen⟩ := Cond.staticRefV Y.sentinel L.sentinelStatic L.statics hcS0 hiss hzS
  obtain ⟨ci, ib, fB, b1, b2, b3, b4, -, b5, b6, b7⟩ := Cond.ownField (t := .object "java/lang/Object") Y.found L.cls (by decide +kernel) hbk hbl e.platform hpl
  obtain ⟨cS, hcS, heS, -, hkeep⟩ := St.same.2.2.2.2.2 T.aS cS0 hcS0
  have hnot : ∀ i, (⟨T.aS, i⟩ : Loc) ∉ locs := fun i hm => by
    have := hlocs _ hm cS0 hcS0
    rw [hiss] at this; cases this
  have hknS : cS.vm ≠ .unknown := by
    rw [heS]; intro hu
    rw [show cS0.vm = .unknown from hu] at hiss
    cases hiss
  have hneS : T.aS ≠ a := Nat.ne_of_lt (Nat.lt_of_lt_of_le (Array.getElem?_eq_some_iff.mp hcS0).1 hnew)
  obtain ⟨iM, hffM⟩ := Y.msg
  obtain ⟨tyC, dC, hdC, nC⟩ := Cond.laysAt hfX hk Y.cause hlC
  obtain ⟨tyS, dS, hdS, nS⟩ := Cond.laysAt hfX hk Y.stack hlS
  obtain ⟨tyP, dP, hdP, nP⟩ := Cond.laysAt hfX hk Y.supp hlP
  obtain ⟨tyM, dM, hdM, nM⟩ := Cond.laysAt hfX hk hffM hlM
  obtain ⟨tyB, dB, hdB, nB⟩ := Cond.laysAt hfX hk b7 hlB
  have bC := Cond.laysApart hdB hdC nB nC (by rw [b5, Y.causeName]; decide)
  have bS := Cond.laysApart hdB hdS nB nS (by rw [b5, Y.stackName]; decide)
  have bP := Cond.laysApart hdB hdP nB nP (by rw [b5, Y.suppName]; decide)
  have hskip : SkipFacts T e.platform s (fun u => u) u0 ((preparedCellV T.toThrowableT (freshCell P1.m.cls kX) a u0 sen).withEntry W.cur) := by
    refine ⟨{ ci198 := ci, i198 := ib, fBack := fB }, ⟨b1, b2, b3, b4⟩, ?_, fun _ _ => rfl⟩
    have hdef := fresh_default (c := P1.m.cls) tyB
    rw [b6] at hdef
    simpa [preparedCellV, Cell.setSlot, Cell.withEntry, Array.getElem?_setIfInBounds, bC, bS, bP, bC.symm, bS.symm, bP.symm, defaultValue] using hdef
  obtain ⟨tm, methC, cdC, kC, vm₁, hnC, -, -, -, -, -, -, -, hW₁, st1⟩ := Steps.initColdS (tb := p.tables) (e := e) (below := below) (s := s) (U := W) St.here hexec St.warmed hpl hown (t := Bundle.initS X) rfl rfl (Bundle.fit_spec hX).2 hlink hinm hcod (f := g) hg (a := a) (msg := msg) (rest := .ref a :: rest) hstack hd6
  cases Option.some.inj (hnC.symm.trans hP1m)
  obtain ⟨vm₂, X₂, st2⟩ := (St.noted hW₁).ctorMessageOffV hexec (g := { g with stack := .ref a :: rest }) hg hsize T L Z LZ M LM (P1 :: Ps)
    (fun P hP => by rcases List.mem_cons.mp hP with rfl | hP; exact L1; exact hL P hP) ⟨hlink1, hlinks⟩ (u0 := u0) (sen := sen) (self := a) hmsg (cell := freshCell P1.m.cls kX) (cellS := cS)
    hcell (fun _ => by simp) (by simp) rfl rfl hsel0 hselF hcS hneS hknS (by rw [hkeep _ (hnot _)]; exact hu0) (by rw [hkeep _ (hnot _)]; exact hsen)
    (Takes.of_laid hk hord tyC (by rw [Y.causeType]; rfl)) (Takes.of_laid hk hord tyS (by rw [Y.stackType]; exact fits_refV_array _ u0)) (Takes.of_laid hk hord tyP (by rw [Y.suppType]; exact fits_refV_object _ sen))
    (Takes.of_laid hk hord tyM (by rw [Y.msgType]; exact fits_refV_object _ ⟨msg, hmsg⟩)) Y.objLocals hskip htr [] hd6
    (by simp only [List.length_cons, hlen]; omega) (by simp only [List.length_cons, hlen]; exact hRl)
  obtain ⟨hwalk, hrun, hended, hWU, hsame⟩ := X₂.athrowLeaves hexec (g := { g with stack := .ref a :: rest, pc := g.pc + 3 }) hg hlocked hentered hout (a := a) (rest := rest) rfl hd9 hlocks
  have hlt : a < ((W.setVm vm₁).setVm vm₂).heap.size := (Array.getElem?_eq_some_iff.mp hcell).1
  refine ⟨_, st1 _ (fun acts => by rw [doInvoke_state]; exact st2 _ hwalk), hrun, hended, hWU, hsame.weaken (fun y hy hy2 => ?_) (Nat.le_refl _) (Nat.le_refl _), _, heapAt_setCell_self (s := (W.setVm vm₁).setVm vm₂) (plainBareV T.toThrowableT (freshCell P1.m.cls kX) a u0 sen msg) hlt, hfX, rfl⟩
  rcases List.mem_append.mp hy with hy | hy
  · exact hy
  · simp only [List.mem_cons, List.not_mem_nil, or_false] at hy
    rcases hy with rfl | rfl | rfl | rfl | rfl <;> exact absurd hy2 (Nat.not_lt.mpr hnew)
def sx_nms : List String := ["java/lang/RuntimeException", "java/lang/Exception"]
def sx_sp (X : String) (w : Cond) : Bool := decide (w = .castable X X) || (decide (w = .declares (Bundle.initS "java/lang/RuntimeException")) || (decide (w = .declares (Bundle.initS "java/lang/Exception")) || (decide (w = .declares (Bundle.initS Bundle.tN)) || (decide (w = .laysStatic Bundle.tN "UNASSIGNED_STACK" Bundle.steD) || (decide (w = .laysStatic Bundle.tN "SUPPRESSED_SENTINEL" Bundle.listD) || (decide (w = .isRef (.static Bundle.tN "UNASSIGNED_STACK" Bundle.steD)) || (decide (w = .isRef (.static Bundle.tN "SUPPRESSED_SENTINEL" Bundle.listD)) || decide (w = .methodLink "" 0 (Bundle.initS X)))))))))
def sx_oX (X : String) (w : Cond) : Bool := sx_sp X w || sx_isW w
def sx_own1 (X : String) : List Cond := [.instantiable X 6, .instanceMethod (Bundle.initS X), .selects X Bundle.tFill0 Bundle.tFill0, .selects X Bundle.tFill Bundle.tFill,
   .lays X Bundle.tN "cause" "Ljava/lang/Throwable;", .lays X Bundle.tN "stackTrace" Bundle.steD, .lays X Bundle.tN "suppressedExceptions" Bundle.listD, .lays X Bundle.tN "detailMessage" "Ljava/lang/String;",
   .isRef (.static Bundle.tN "UNASSIGNED_STACK" Bundle.steD), .isRef (.static Bundle.tN "SUPPRESSED_SENTINEL" Bundle.listD),
   .fieldLink Bundle.tN 198 Bundle.tN "backtrace" "Ljava/lang/Object;", .lays Bundle.tN Bundle.tN "backtrace" "Ljava/lang/Object;", .lays X Bundle.tN "backtrace" "Ljava/lang/Object;"]
noncomputable def sf_oX (X : String) (w : Cond) : Bool := sf_isW w || sx_sp X w
theorem sf_oX_ok {X : String} {w : Cond} (h : sf_oX X w = true) : sx_oX X w = true := by
  unfold sf_oX at h
  unfold sx_oX
  rw [Bool.or_eq_true] at h ⊢
  exact h.elim (fun q => Or.inr (sf_isW_ok q)) Or.inl
theorem sf_oXl {X : String} {l : List Cond} (h : l.all (sf_oX X) = true) : l.all (sx_oX X) = true := List.all_eq_true.mpr fun w hw => sf_oX_ok (List.all_eq_true.mp h w hw)
theorem sf_o : ((Bundle.throwableAtoms ++ (Bundle.throwableSAtoms ++ Bundle.chainSAtoms "java/lang/RuntimeException" ["java/lang/Exception"])).all (sf_oX "") && ((sx_own1 "java/lang/IllegalArgumentException").all (sf_oX "java/lang/IllegalArgumentException") && ((sx_own1 "java/lang/UnsupportedOperationException").all (sf_oX "java/lang/UnsupportedOperationException") && ((sx_own1 "java/lang/IndexOutOfBoundsException").all (sf_oX "java/lang/IndexOutOfBoundsException") && ((sx_own1 "java/util/NoSuchElementException").all (sf_oX "java/util/NoSuchElementException") && (sx_own1 "java/lang/IllegalStateException").all (sf_oX "java/lang/IllegalStateException")))))) = true := by decide +kernel
theorem sf_a {a b : Bool} (h : (a && b) = true) : a = true ∧ b = true := by
  rw [Bool.and_eq_true] at h
  exact h
theorem sx_oT : (Bundle.throwableAtoms ++ (Bundle.throwableSAtoms ++ Bundle.chainSAtoms "java/lang/RuntimeException" ["java/lang/Exception"])).all (sx_oX "") = true := sf_oXl (sf_a sf_o).1
theorem sx_o0 : (sx_own1 "java/lang/IllegalArgumentException").all (sx_oX "java/lang/IllegalArgumentException") = true := sf_oXl (sf_a (sf_a sf_o).2).1
theorem sx_o1 : (sx_own1 "java/lang/UnsupportedOperationException").all (sx_oX "java/lang/UnsupportedOperationException") = true := sf_oXl (sf_a (sf_a (sf_a sf_o).2).2).1
theorem sx_o2 : (sx_own1 "java/lang/IndexOutOfBoundsException").all (sx_oX "java/lang/IndexOutOfBoundsException") = true := sf_oXl (sf_a (sf_a (sf_a (sf_a sf_o).2).2).2).1
theorem sx_o3 : (sx_own1 "java/util/NoSuchElementException").all (sx_oX "java/util/NoSuchElementException") = true := sf_oXl (sf_a (sf_a (sf_a (sf_a (sf_a sf_o).2).2).2).2).1
theorem sx_o4 : (sx_own1 "java/lang/IllegalStateException").all (sx_oX "java/lang/IllegalStateException") = true := sf_oXl (sf_a (sf_a (sf_a (sf_a (sf_a sf_o).2).2).2).2).2
theorem sx_oE {X : String} (h : X ∈ sx_exc) : (sx_own1 X).all (sx_oX X) = true := by
  simp only [sx_exc, List.mem_cons, List.not_mem_nil, or_false] at h
  rcases h with rfl | rfl | rfl | rfl | rfl
  · exact sx_o0
  · exact sx_o1
  · exact sx_o2
  · exact sx_o3
  · exact sx_o4
def sx_rI (X : String) : Bool := sx_isW (.instantiable X 6) && (sx_isW (.initialized X) && Bundle.fit X)
theorem sx_rI_ok : sx_exc.all sx_rI = true := by decide +kernel
theorem sx_fit_nms : ∀ n ∈ sx_nms, Bundle.fit n = true := by decide +kernel
theorem sx_sp_ok {X : String} {w : Cond} {A : Nat → Prop} (hT : sx_Tb D K s) (hS : sx_Sx b A s s.heap) (hX : X ∈ sx_exc ∨ w ≠ .castable X X) (hm : w ≠ .methodLink "" 0 (Bundle.initS X)) (h : sx_oX X w = true) : w.before args s = true := by
  unfold sx_oX sx_sp at h
  simp only [Bool.or_eq_true, decide_eq_true_eq] at h
  rcases h with (h | h | h | h | h | h | h | h | h) | h
  · subst h
    rcases hX with hX | hX
    · exact va_Nw.use rfl (hT.2.2.1.2.1 X hX)
    · exact absurd rfl hX
  · subst h; exact va_Nw.use rfl hT.2.2.1.2.2.1
  · subst h; exact va_Nw.use rfl hT.2.2.1.2.2.2.1
  · subst h; exact va_Nw.use rfl hT.2.2.1.2.2.2.2
  · subst h; exact hS.1.lays
  · subst h; exact hS.2.1.lays
  · subst h; exact hS.1.isRef
  · subst h; exact hS.2.1.isRef
  · exact absurd h hm
  · exact hT.1 args w (sx_isW_ok h)
theorem sx_oTn : ∀ w ∈ Bundle.throwableAtoms ++ (Bundle.throwableSAtoms ++ Bundle.chainSAtoms "java/lang/RuntimeException" ["java/lang/Exception"]), w ≠ .castable "" "" ∧ w ≠ .methodLink "" 0 (Bundle.initS "") := by decide +kernel
theorem sx_thr_ok {A : Nat → Prop} (hT : sx_Tb D K s) (hS : sx_Sx b A s s.heap) : ∀ w ∈ Bundle.throwableAtoms ++ (Bundle.throwableSAtoms ++ Bundle.chainSAtoms "java/lang/RuntimeException" ["java/lang/Exception"]), w.before args s = true :=
  fun w hw => sx_sp_ok hT hS (Or.inr (sx_oTn w hw).1) (sx_oTn w hw).2 (List.all_eq_true.mp sx_oT w hw)
theorem sx_own_ok {X : String} {A : Nat → Prop} (hT : sx_Tb D K s) (hS : sx_Sx b A s s.heap) (hX : X ∈ sx_exc) : ∀ w ∈ sx_own1 X, w.before args s = true := by
  intro w hw
  refine sx_sp_ok hT hS (Or.inl hX) (fun h => ?_) (List.all_eq_true.mp (sx_oE hX) w hw)
  subst h
  simp [sx_own1] at hw
/-- the entry and the bytes of an exception's constructor -/
def sx_xb (X : String) : Nat × ByteArray := if X = "java/util/NoSuchElementException" then (13, ⟨#[0x2a, 0x2b, 0xb7, 0x00, 0x0d, 0xb1]⟩) else (7, ⟨#[0x2a, 0x2b, 0xb7, 0x00, 0x07, 0xb1]⟩)
def sx_xB (X : String) : Bool := let y := sx_xb X
  sx_isW (.code (Bundle.initS X) y.2 2 none) && (sx_isW (.methodLink X y.1 (Bundle.initS "java/lang/RuntimeException")) && (decide (decode y.2 0 = .ok (.aload_n 0, 1)) && (decide (decode y.2 1 = .ok (.aload_n 1, 1)) && (decide (decode y.2 2 = .ok (.invokespecial y.1, 3)) && decide (decode y.2 5 = .ok (.return_, 1))))))
theorem sx_xB0 : sx_xB "java/lang/IllegalArgumentException" = true := by decide +kernel
theorem sx_xB1 : sx_xB "java/lang/UnsupportedOperationException" = true := by decide +kernel
theorem sx_xB2 : sx_xB "java/lang/IndexOutOfBoundsException" = true := by decide +kernel
theorem sx_xB3 : sx_xB "java/util/NoSuchElementException" = true := by decide +kernel
theorem sx_xB4 : sx_xB "java/lang/IllegalStateException" = true := by decide +kernel
theorem sx_xBE {X : String} (h : X ∈ sx_exc) : sx_xB X = true := by
  simp only [sx_exc, List.mem_cons, List.not_mem_nil, or_false] at h
  rcases h with rfl | rfl | rfl | rfl | rfl
  · exact sx_xB0
  · exact sx_xB1
  · exact sx_xB2
  · exact sx_xB3
  · exact sx_xB4
theorem sx_chain {X : String} {A : Nat → Prop} {pl : Platform} (hpl : pl.magicAccessors = ({} : Platform).magicAccessors) (hT : sx_Tb D K s) (hS : sx_Sx b A s s.heap) (hX : X ∈ sx_exc) (hfit : Bundle.fit X = true) : sx_Ch pl s X 2 := by
  intro top htop
  have hb := sx_xBE hX
  unfold sx_xB at hb
  simp only [Bool.and_eq_true, decide_eq_true_eq] at hb
  obtain ⟨b1, b2, b3, b4, b5, b6⟩ := hb
  have hthr := sx_thr_ok (args := #[]) hT hS
  have how := sx_own_ok (args := #[]) hT hS hX
  have hch : ∀ w ∈ Bundle.chainSAtoms "java/lang/RuntimeException" ["java/lang/Exception"], w.before #[] s = true := fun w hw => hthr w (List.mem_append_right _ (List.mem_append_right _ hw))
  obtain ⟨P2, Ps, q1, q2, q3, q4, q5, q6⟩ := Bundle.chainS (args := #[]) hpl htop ["java/lang/Exception"] "java/lang/RuntimeException" (by decide +kernel) (by decide +kernel) hch
  obtain ⟨P1, r1, r2, r3⟩ := PassC.ofS_atoms (args := #[]) hpl (X := X) (Y := "java/lang/RuntimeException") (index := (sx_xb X).1) (bytes := (sx_xb X).2) (Bundle.fit_spec hfit).1 (by decide) b3 b4 b5 b6 (fun w hw => by
    simp only [Bundle.passSAtoms, List.mem_cons, List.not_mem_nil, or_false] at hw
    rcases hw with rfl | rfl | rfl | rfl | rfl
    · exact how _ (by simp [sx_own1])
    · exact hT.1 #[] _ (sx_isW_ok b1)
    · exact hT.1 #[] _ (sx_isW_ok b2)
    · exact hch _ (by simp [Bundle.chainSAtoms, Bundle.passSAtoms])
    · exact hT.2.2.1.2.2.1)
  refine ⟨P1, P2 :: Ps, by simp [q1], r1, fun P hP => ?_, r2, ?_, ?_⟩
  · rcases List.mem_cons.mp hP with rfl | hP
    · exact q2
    · exact q3 P hP
  · exact Option.some.inj (r3.symm.trans q4)
  · exact ⟨q5, q6⟩
theorem sx_ldcwS {cc : ByteArray} {own tx : String} {index qa : Nat} {rest : List Value} (hexec : p.tables.exec = Jvm.exec) (hb : c.code = cc) (hown : s.vm.findClass own = some m.cls) (hZ : vk_R own index tx qa s) (hdg : decode cc pc = .ok (.ldc_w index, 3))
    (k : W p l e R s m args below meth c H locs cells slots Q (F0 m (pc + 3) ls (.ref qa :: rest))) : W p l e R s m args below meth c H locs cells slots Q (F0 m pc ls rest) := by
  intro T hT X
  obtain ⟨t, a1, b1⟩ := k T hT X
  refine ⟨t, ?_, b1⟩
  obtain ⟨k, cf, i, a', hk, hcf, hcp, -, hr, hev'⟩ := Cond.stringRef_spec (args := #[]) hown hZ.1
  cases hZ.2.symm.trans hev'
  obtain ⟨k', hk', he⟩ := X.warmed.alike.2.2 _ _ hk
  have hr' : k'.resolved[index]? = some (some (.string qa)) := by
    rcases X.warmed.entry hk hk' index with h | ⟨h, -⟩
    · rw [h]; exact hr
    · rw [hr] at h; cases h
  subst hb
  jvm_step X.here [hexec, hdg, ldc_w.wp_string (e := e) (s := T) (f := F0 m pc ls rest) X.here.top hk' (by rw [he]; exact hcf) hcp hr']
  exact a1
theorem sx_sThrow (IH : sx_Ok N ih) (hC : sx_Cx p e R s m meth c D K b N xs A mi d q) (hA : sx_At R s c D K b N xs A ad rs cells slots locs L S h n sy cs ss ls st H) (hL : sx_Ls p l e R s m args below meth c D K b N xs A Q ad rs lst) (hQ : ∀ o ∈ outs, ∀ t, sx_En R s below D K b A ad rs o t → Q t)
    (hHid : sx_ihd (sx_mt mi).2 = 0 → q.2.2.2.2 = []) (hk : sx_k28 q pc w = true) (hr : sx_oThrow w mi S h n sy cs ss = some outs) : W p l e R s m args below meth c H locs cells slots Q (F0 m pc ls st) := by
  obtain ⟨-, hx, -, hb, hml, -, -, -, hown, -, hT, -⟩ := id hC
  obtain ⟨hLc, hSt, hrest⟩ := id hA
  obtain ⟨-, -, htr, -, -, -, -, hex, -, hlocks, -, hSx, -, -, hbA, hAl, -, hfr, hlo⟩ := id hC
  unfold sx_oThrow at hr
  rw [sx_mtK_eq] at hr
  obtain ⟨hc, hr⟩ := sx_if_ok hr
  obtain ⟨c1, hc⟩ := sx_and_ok hc
  obtain ⟨c2, hc⟩ := sx_and_ok hc
  obtain ⟨c3, c4⟩ := sx_and_ok hc
  have c2 : S.length ≤ 40 := sx_ble c2
  have c3 : cs < 600002 := sx_blt c3
  have c4 : ss + 6 ≤ 7302232 := sx_ble c4
  simp only [sx_fo_eq] at hr
  have hr : some [(Nat.add 2 (Nat.mod (sx_wb w) 16), 0, h, n, sy, Nat.succ cs, Nat.add ss 6)] = some outs := hr
  cases hr
  have hQ1 := hQ _ (List.mem_singleton.mpr rfl)
  clear hQ
  have hex0 : c.exceptionTable.toList = [] := by
    rw [hHid (sx_beq c1)] at hex
    exact List.map_eq_nil_iff.mp hex
  unfold sx_k28 at hk
  obtain ⟨t, ht, hk⟩ := sx_oa_ok hk
  simp only [Bool.and_eq_true, decide_eq_true_eq] at hk
  obtain ⟨hcls, d1, d2, hE, hk⟩ := hk
  obtain ⟨E, hE1, hE2⟩ := sx_oa_ok hE
  have hE2 : t.2.2 = E := of_decide_eq_true hE2
  obtain ⟨u, hu, hk⟩ := sx_oa_ok hk
  simp only [Bool.and_eq_true, decide_eq_true_eq] at hk
  obtain ⟨hu1, hk⟩ := hk
  obtain ⟨v, hv, hk⟩ := sx_oa_ok hk
  simp only [Bool.and_eq_true, decide_eq_true_eq] at hk
  obtain ⟨hv1, hv2, hk⟩ := hk
  have hEm : E ∈ sx_exc := List.mem_of_getElem? hE1
  have hI := List.all_eq_true.mp sx_rI_ok E hEm
  unfold sx_rI at hI
  simp only [Bool.and_eq_true] at hI
  obtain ⟨hI1, hI2, hI3⟩ := hI
  obtain ⟨hY, hG, hS, hxs, hr1, hr2, hr3⟩ := id hrest
  intro T hTH X
  have X' := sx_rebase X (by omega) (by omega)
  generalize hs' : T.setFrames (.invoking m args :: below) = s' at X'
  have hvm' : s'.vm = T.vm := by rw [← hs']; rfl
  have hheap' : s'.heap = H := by rw [← hs']; exact hTH
  have hW' : s.WarmedH s'.vm := by rw [hvm']; exact X.warmed
  have hT' : sx_Tb D K s' := hT.warm hW'
  have hown' : s'.vm.findClass q.1.cls = some m.cls := by rw [hW'.alike.findClass]; exact hown
  have hSx' : sx_Sx b A s' s'.heap := by
    rw [hheap']
    exact ⟨(hSx.1.moved hW'.alike).kept hS.2.1, (hSx.2.1.moved hW'.alike).kept hS.2.1, (hSx.2.2.warm hW').kept hS.2.1⟩
  obtain ⟨qm, hqm⟩ := hT'.2.2.1.1 u (List.mem_of_getElem? hu)
  have key : W p l e { frames := R.frames, cells := R.cells - cells, slots := R.slots - slots, locals := R.locals } s' m args below meth c H [] 0 0 (fun U => ∃ a : Addr, U.status = .running ∧ Ended U below (.threw a) ∧ s'.WarmedH U.vm ∧ s'.sameButNew ({ U with vm := s'.vm } : State) [] 1 6 ∧ ∃ ce, U.heap[a]? = some ce ∧ s'.vm.findClass E = some ce.cls ∧ ce.vm = .none) (F0 m pc ls st) := by
    refine W.newc (n := 6) (C := t.2.2) hx hb hown' (index := t.2.1) (by rw [← hcls]; exact hT'.1 args _ (sx_cl_in ht)) (by rw [hE2]; exact hT'.1 args _ (sx_isW_ok hI1)) (by rw [hE2]; exact hT'.1 args _ (sx_isW_ok hI2)) (g := F0 m pc ls st) rfl (sx_dc_ok d1) (by show 0 + 1 ≤ R.cells - cells; omega) (by show 0 + 6 ≤ R.slots - slots; omega) (fun cC kC h1 h2 h3 h4 => ?_)
    refine lv_dup hx hb (sx_dc_ok d2) rfl ?_
    have fin : ∀ (pc6 : Nat), decode q.2.1 pc6 = .ok (.invokespecial v.2.1, 3) → decode q.2.1 (pc6 + 3) = .ok (.athrow, 1) → W p l e { frames := R.frames, cells := R.cells - cells, slots := R.slots - slots, locals := R.locals } s' m args below meth c (H.push { cls := cC, slots := kC.instanceTypes.map defaultValue, vm := .none }) [] (0 + 1) (0 + 6) (fun U => ∃ a : Addr, U.status = .running ∧ Ended U below (.threw a) ∧ s'.WarmedH U.vm ∧ s'.sameButNew ({ U with vm := s'.vm } : State) [] 1 6 ∧ ∃ ce, U.heap[a]? = some ce ∧ s'.vm.findClass E = some ce.cls ∧ ce.vm = .none) (F0 m pc6 ls (.ref qm :: .ref H.size :: .ref H.size :: st)) := by
      intro pc6 e6 e9 T2 hT2 X2
      have hsum := hSt.sum
      have hthr := sx_thr_ok (args := args) hT' hSx'
      have how := sx_own_ok (args := args) hT' hSx' hEm
      have hpl : e.platform.magicAccessors = ({} : Platform).magicAccessors := by rw [X2.admits.platform]
      have hxb := sx_xBE hEm
      unfold sx_xB at hxb
      simp only [Bool.and_eq_true] at hxb
      obtain ⟨U, u1, u2, u3, u4, u5, ce, u6, u7, u8⟩ := sx_ctor X2 hx htr (own := q.1.cls) (X := E) (ic := v.2.1) (len := 2) (maxL := 2) (bts := (sx_xb E).2) hown' hI3 (sx_chain hpl hT' hSx' hEm hI3) (fun w hw => hthr w (by rcases List.mem_append.mp hw with hw | hw; exact List.mem_append_left _ hw; exact List.mem_append_right _ (List.mem_append_left _ hw))) (by rw [← hv1, ← hE2, ← hv2]; exact hT'.1 args _ (sx_ml_in hv))
        (how _ (by simp [sx_own1])) (how _ (by simp [sx_own1])) (hT'.1 args _ (sx_isW_ok hxb.1)) (how _ (by simp [sx_own1])) (how _ (by simp [sx_own1])) (how _ (by simp [sx_own1])) (how _ (by simp [sx_own1])) (how _ (by simp [sx_own1])) (how _ (by simp [sx_own1])) (how _ (by simp [sx_own1])) (how _ (by simp [sx_own1])) (how _ (by simp [sx_own1])) (how _ (by simp [sx_own1])) (how _ (by simp [sx_own1]))
        (fun x hx => by cases hx) (a := H.size) (cX := cC) (kX := kC) (by rw [← hE2]; exact h1) h2 (by rw [hT2]; exact Array.getElem?_push_size) (by rw [hheap']; exact Nat.le_refl _) (msg := .ref qm) rfl (g := F0 m pc6 ls (.ref qm :: .ref H.size :: .ref H.size :: st)) rfl (by show ls.size = _; rw [hLc.1, hr3]) rfl rfl rfl (by rw [hb]; exact e6) (by rw [hb]; exact e9) (by rw [hex0]; intro x hx; cases hx) (by show 2 + 3 < R.frames; omega) (by show 2 * 0 + (1 + (st.map fun v => v.category).sum) + (13 * (2 + 1) + 42) ≤ R.locals; omega) hlocks
      exact ⟨U, u1, H.size, u2, u3, u4, u5, ce, u6, u7, u8⟩
    by_cases hw0 : sx_wb w / 16 = 0
    · rw [if_pos hw0] at hk
      simp only [Bool.and_eq_true] at hk
      obtain ⟨k1, k2, k3⟩ := hk
      exact va_ldcS hx hb hown' (by rw [← hu1]; exact hqm) (sx_dc_ok k1) (fin (pc + 6) (sx_dc_ok k2) (sx_dc_ok k3))
    · rw [if_neg hw0] at hk
      simp only [Bool.and_eq_true] at hk
      obtain ⟨k1, k2, k3⟩ := hk
      exact sx_ldcwS hx hb hown' (by rw [← hu1]; exact hqm) (sx_dc_ok k1) (fin (pc + 7) (sx_dc_ok k2) (sx_dc_ok k3))
  obtain ⟨U, hst, a, u1, u2, u3, u4, ce, u5, u6, u7⟩ := key T hTH X'
  refine ⟨U, hst, hQ1 U ?_⟩
  have hkeep : ∀ (x : Nat) (cell : Cell), H[x]? = some cell → U.heap[x]? = some cell := by
    intro x cell hx
    obtain ⟨c', w1, w2, w3, w4⟩ := u4.2.2.2.2.2 x cell (by rw [hheap']; exact hx)
    have e : c'.slots = cell.slots := by
      apply Array.ext_getElem?
      intro i
      exact w4 i (by simp)
    rw [w2, e] at w1
    exact w1
  have hsz : H.size ≤ U.heap.size := by have := u4.2.1; rw [hheap'] at this; exact this
  have hs2 := sx_since X (by rw [hs']; exact u4)
  rw [List.append_nil] at hs2
  refine ⟨.threw a, ad, rs, locs, cells + 1, slots + 6, u1, u2, ?_, hs2, List.prefix_rfl, List.prefix_rfl, hY, ?_, ⟨Nat.le_trans hS.1 hsz, fun x h1 h2 => ?_, hS.2.2⟩, by show 600002 + (cells + 1) ≤ R.cells + (cs + 1); omega, by show 7302232 + (slots + 6) ≤ R.slots + (ss + 6); omega, Or.inr (Or.inr ⟨Nat.mod (sx_wb w) 16, E, Nat.add_comm _ _, hE1, a, ce, rfl, u5, by rw [← hW'.alike.findClass]; exact u6, u7⟩)⟩
  · exact State.WarmedH.trans hW' u3
  · obtain ⟨ws, hP, hD, g3, g4, g5, g6⟩ := hG
    refine ⟨ws, hP.kept (fun k qq hq => ?_), hD, g3, g4, g5, g6⟩
    have hlt := (hP k qq hq).lt
    rw [Array.getElem?_eq_getElem hlt]
    exact hkeep _ _ (Array.getElem?_eq_getElem hlt)
  · have hlt : x < H.size := Nat.lt_of_lt_of_le h1 hS.1
    rw [← hS.2.1 x h1 h2, Array.getElem?_eq_getElem hlt]
    exact hkeep _ _ (Array.getElem?_eq_getElem hlt)
end SXThrow
