/-! sx: a walk begun anew -/
section SXRb
variable {N : Nat} {ih : sx_ih} {w d mi pc n cs ss : Nat} {lst : List sx_I} {L S : List Nat} {h : sx_H} {sy : sx_Y} {outs : List sx_O}
variable {p : Program} {l : Launch} {e : Env} {R : Room} {s : State} {m : MethodId} {args : Array Value} {below : List Frame} {meth : Method} {c : Code} {D : va_G} {K : ClassId → FieldType → Prop} {b : Nat → Nat} {xs : Nat → Int32} {A : Nat → Prop} {q : sx_M}
variable {ad : List Nat} {rs : List Int32} {ls : Array Slot} {st : List Value} {H : Heap} {locs : List Loc} {cells slots : Nat} {Q : State → Prop}
/-- the walk as if it began here -/
theorem sx_rebase {T : State} (X : Stand p l e R s m args below meth c T locs cells slots) (hc : cells ≤ R.cells) (hs : slots ≤ R.slots) :
    Stand p l e { frames := R.frames, cells := R.cells - cells, slots := R.slots - slots, locals := R.locals } (T.setFrames (.invoking m args :: below)) m args below meth c T [] 0 0 := by
  obtain ⟨g₀, hfr⟩ := X.frames_eq
  have hcur : T.cur < T.threads.size := State.cur_lt_of_frames hfr
  have hf' : (T.setFrames (.invoking m args :: below)).frames = .invoking m args :: below := State.frames_setFrames _ hcur
  have hm' : T.vm.method? m = some meth := X.method'
  have hh := X.heapHas (a := R.cells - cells) (b := R.slots - slots) (by omega) (by omega)
  refine ⟨X.admits, X.cas, X.clock, hf', ?_, ?_, hm', X.code, X.here, X.tail, State.WarmedH.refl _, (State.stackLimits_setFrames _ _ _).symm, (State.stackBytes_setFrames _ _).symm, ?_⟩
  · have hr := X.room
    simp only [State.hasRoom, Bool.and_eq_true, decide_eq_true_eq] at hr ⊢
    obtain ⟨⟨⟨⟨r1, r2, r3, r4, r5, r6⟩, r7⟩, r8⟩, r9⟩ := hr
    rw [State.localsInUse_invoking X.frames X.method X.code] at r1 r4 r5
    rw [State.localsInUse_invoking hf' hm' X.code, hf', State.stackLimits_setFrames, X.limits, State.stackBytes_setFrames, X.bytes]
    rw [X.frames] at r2 r3
    exact ⟨⟨⟨⟨r1, r2, r3, r4, r5, r6⟩, hh.1⟩, hh.2⟩, X.book⟩
  · have h1 := X.hears
    have hmm : ∀ x : MethodId, T.vm.method? x = s.vm.method? x := fun x => X.warmed.alike.method? x
    cases below with
    | nil => simp only [State.hears] at h1 ⊢; show Option.any _ (T.vm.method? m) = true; rw [hmm]; exact h1
    | cons f r =>
      cases f with
      | java g =>
        simp only [State.hears] at h1 ⊢
        have e1 : (T.setFrames (.invoking m args :: .java g :: r)).code? g.method = s.code? g.method := by
          rw [State.code?_eq, State.code?_eq]
          show (T.vm.method? g.method).bind _ = _
          rw [hmm]
        rw [e1]
        exact h1
      | native _ => rfl
      | proc _ => rfl
      | _ => simp only [State.hears] at h1 ⊢; show Option.any _ (T.vm.method? m) = true; rw [hmm]; exact h1
  · obtain ⟨t, ht, -⟩ := State.frames_cons hf'
    have h := (State.sameButNew.refl (T.setFrames (.invoking m args :: below)) ht).setFrames T.frames (State.cur_lt_of_frames hf')
    rw [State.setFrames_setFrames] at h
    obtain ⟨t2, ht2, -⟩ := State.frames_cons hfr
    rw [State.setFrames_self ht2] at h
    exact h
/-- what is made and written since then is made and written since the beginning -/
theorem sx_since {T U : State} {l2 : List Loc} {c2 s2 : Nat} (X : Stand p l e R s m args below meth c T locs cells slots) (h : (T.setFrames (.invoking m args :: below)).sameButNew ({ U with vm := (T.setFrames (.invoking m args :: below)).vm } : State) l2 c2 s2) :
    s.sameButNew ({ U with vm := s.vm } : State) (locs ++ l2) (cells + c2) (slots + s2) := by
  obtain ⟨g₀, hfr⟩ := X.frames_eq
  have hcur : T.cur < T.threads.size := State.cur_lt_of_frames hfr
  have h1 := X.same.setFrames (.invoking m args :: below) X.cur
  exact h1.trans (h.setVm s.vm)
end SXRb
