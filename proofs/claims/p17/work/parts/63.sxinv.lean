/-! sx: a call and what it gives -/
section SXInv
variable {N : Nat} {ih : sx_ih} {w d mi pc n cs ss : Nat} {lst : List sx_I} {L S : List Nat} {h : sx_H} {sy : sx_Y} {outs : List sx_O}
variable {p : Program} {l : Launch} {e : Env} {R : Room} {s : State} {m : MethodId} {args : Array Value} {below : List Frame} {meth : Method} {c : Code} {D : va_G} {K : ClassId → FieldType → Prop} {b : Nat → Nat} {xs : Nat → Int32} {A : Nat → Prop} {q : sx_M}
variable {ad : List Nat} {rs : List Int32} {ls : Array Slot} {st : List Value} {H : Heap} {locs : List Loc} {cells slots : Nat} {Q : State → Prop}
theorem sx_inv (IH : sx_Ok N ih) (hC : sx_Cx p e R s m meth c D K b N xs A mi d q) (hA : sx_At R s c D K b N xs A ad rs cells slots locs L S h n sy cs ss ls st H) (hL : sx_Ls p l e R s m args below meth c D K b N xs A Q ad rs lst) (hQ : ∀ o ∈ outs, ∀ t, sx_En R s below D K b A ad rs o t → Q t) {mj : Nat} {av rest : List Nat} {avs restv : List Value} {r : sx_M} (hMO : sx_MO) (hM : sx_Mok mi q) (hr : sx_call ih d mi (sx_mt mi).1 lst pc L h n sy cs ss av rest mj = some outs) (hav : sx_St b ad rs av avs) (hre : sx_St b ad rs rest restv) (hmr : sx_ms[mj]? = some r) (hm0 : mj ≠ 0)
    (hfire : ∀ T, T.heap = H → Stand p l e R s m args below meth c T locs cells slots → sx_Fi p l e R s m args below meth c T locs cells slots (F0 m pc ls st) restv r.1 avs) : W p l e R s m args below meth c H locs cells slots Q (F0 m pc ls st) := by
  obtain ⟨-, hx, htr, hb, hml, -, -, hex, hown, hlocks, hT, hSx, hX, hbl, hbA, hAl, hst, hfr, hlo⟩ := id hC
  obtain ⟨hLc, hSt, hY, hG, hS, hxs, hr1, hr2, hr3⟩ := id hA
  cases d with
  | zero => cases hr
  | succ d =>
  have hr : sx_mtK mj (fun cj fj => sx_mtK mi (fun _ f => sx_if (sx_and (sx_and (Nat.blt 0 cj) (Nat.ble (Nat.add (Nat.mul 2 (List.length rest)) (sx_im fj)) 89)) (sx_and (Nat.ble cs 600002) (Nat.ble ss 7302232))) (Option.rec none (fun Lj => Option.rec none (fun outs => sx_cont ih (d + 1) mi (sx_mt mi).1 lst pc L rest (sx_ihd f) outs) (ih d mj cj [] false 0 Lj [] h n sy cs ss)) (sx_xp av (sx_im fj))) none)) = some outs := hr
  rw [sx_mtK_eq, sx_mtK_eq] at hr
  obtain ⟨hc, hr⟩ := sx_if_ok hr
  obtain ⟨hc, hcs⟩ := sx_and_ok hc
  obtain ⟨c2, c3⟩ := sx_and_ok hcs
  have c2 : cs ≤ 600002 := sx_ble c2
  have c3 : ss ≤ 7302232 := sx_ble c3
  obtain ⟨c0, c1⟩ := sx_and_ok hc
  have c0 : 0 < (sx_mt mj).1 := sx_blt c0
  have c1 : 2 * rest.length + sx_im (sx_mt mj).2 ≤ 89 := sx_ble c1
  obtain ⟨Lj, hLj, hr⟩ := sx_opt_ok hr
  obtain ⟨outsj, hrun, hcont⟩ := sx_opt_ok hr
  have hMj := hMO mj r hmr c0
  obtain ⟨mk, methk, ck, n1, n2, n3, n4, n5, n6, n7, n8, n9, n10⟩ := sx_meth hT hm0 hMj
  intro T hTH X
  obtain ⟨vm₁, mk', ig, X₁, hnm, hdg, hgo⟩ := hfire T hTH X
  cases hnm.symm.trans n1
  have hcc : cells ≤ R.cells ∧ slots ≤ R.slots := by omega
  have hsum := hre.sum
  have hmk : (T.setVm vm₁).vm.method? mk = some methk := (X₁.warmed.alike.method? mk).trans n2
  have hpk : (T.setVm vm₁).plainMethod mk := State.plainMethod.of_named hMj.2.2.1 (X₁.named n1) hmk
  have him : sx_im (sx_mt mj).2 = ck.maxLocals := by rw [hMj.2.1, n5]
  obtain ⟨Y, hdo⟩ := X₁.into (g := F0 m pc ls restv) rfl (by show ls.size = _; rw [hLc.1, hr3]) hdg avs.toArray (R' := { frames := d + 8, cells := R.cells - cells, slots := R.slots - slots, locals := 100 * (d + 2) }) hmk n3 n7 hpk (by show d + 8 + 1 ≤ R.frames; omega) (by show 2 * 0 + (restv.map fun v => v.category).sum + (ck.maxLocals + 11) + 100 * (d + 2) ≤ R.locals; rw [← him]; omega) (by show cells + (R.cells - cells) ≤ R.cells; omega) (by show slots + (R.slots - slots) ≤ R.slots; omega)
  have hadA : ∀ x, x ∈ ad → A x ∧ ∃ cell, H[x]? = some cell ∧ cell.vm = .none := by
    obtain ⟨ws, hP, hD, g3, -⟩ := hG
    intro x hx
    rw [← g3] at hx
    obtain ⟨qq, hq1, rfl⟩ := List.mem_map.mp hx
    obtain ⟨k, hk⟩ := List.getElem?_of_mem hq1
    have hlt := (hP k qq hk).lt
    exact ⟨hD.2 k qq hk, _, Array.getElem?_eq_getElem hlt, sx_at_none (hP k qq hk) (Array.getElem?_eq_getElem hlt)⟩
  have hAA : ∀ x, (x ∈ ad ∨ H.size ≤ x) → A x := fun x hx => by
    rcases hx with hx | hx
    · exact (hadA x hx).1
    · exact hAl x (Nat.le_trans hS.1 hx)
  obtain ⟨x1, x2, x3⟩ := sx_xp_ok 0 hav hLj
  have hent := lv_entry avs x1
  have key := IH d mj [] false 0 Lj [] h n sy cs ss outsj hrun p l e { frames := d + 8, cells := R.cells - cells, slots := R.slots - slots, locals := 100 * (d + 2) } ((T.setVm vm₁).calling (F0 m pc ls restv) mk avs.toArray) mk avs.toArray (.java (F0 m pc ls restv) :: below) methk ck D K b xs (fun x => x ∈ ad ∨ H.size ≤ x) r ad rs _ [] H [] 0 0
    (fun t => ∃ o ∈ outsj, sx_En { frames := d + 8, cells := R.cells - cells, slots := R.slots - slots, locals := 100 * (d + 2) } ((T.setVm vm₁).calling (F0 m pc ls restv) mk avs.toArray) (.java (F0 m pc ls restv) :: below) D K b (fun x => x ∈ ad ∨ H.size ≤ x) ad rs o t)
    ⟨hmr, hx, htr, n4, n5, n6, n10, n8, by show (T.setVm vm₁).vm.findClass r.1.cls = some mk.cls; rw [X₁.warmed.alike.findClass]; exact findClass_of_methodNamed n1, n7, hT.warm X₁.warmed,
      by
        have hq : ∀ a : Nat, a < s.heap.size → ¬ A a → T.heap[a]? = s.heap[a]? := by rw [hTH]; exact hS.2.1
        refine ⟨((hSx.1.moved X₁.warmed.alike).kept hq).narrow (fun x _ hx => hAA x hx), ((hSx.2.1.moved X₁.warmed.alike).kept hq).narrow (fun x _ hx => hAA x hx), ((hSx.2.2.warm X₁.warmed).kept hq).narrow (fun x hx => hAA x hx)⟩,
      (hX.kept (by show T.heap[b 0]? = _; rw [hTH]; exact hS.2.1 (b 0) hbl hbA)).moved X₁.warmed.alike, by show b 0 < T.heap.size; rw [hTH]; exact Nat.lt_of_lt_of_le hbl hS.1, fun hx => hbA (hAA (b 0) hx), fun x hx => Or.inr (by rw [← hTH]; exact hx),
      fun x cell hx hc => by
        have hc : H[x]? = some cell := by rw [← hTH]; exact hc
        rcases hx with hx | hx
        · obtain ⟨-, cell', h1, h2⟩ := hadA x hx
          cases h1.symm.trans hc
          rw [h2]; rfl
        · have := (Array.getElem?_eq_some_iff.mp hc).1; omega,
      Nat.le_refl _, Nat.le_refl _⟩
    ⟨⟨by rw [hent.1, x2], hent.2.1, fun i v hi h7 => by obtain ⟨y, hy1, hy2⟩ := x3 i v hi h7; rw [Nat.zero_add] at hy1; exact ⟨y, hent.2.2 (i, y) hy1, hy2⟩⟩, trivial, hY, hG.weaken (fun x hx _ => Or.inl hx), by rw [show ((T.setVm vm₁).calling (F0 m pc ls restv) mk avs.toArray).heap = H from hTH]; exact va_S.rf, hxs, by show 600002 + 0 ≤ R.cells - cells + cs; omega, by show 7302232 + 0 ≤ R.slots - slots + ss; omega, by rw [x2, him]⟩
    (fun _ _ _ _ _ _ _ _ _ _ _ hi => by cases hi) (fun o ho t ht => ⟨o, ho, ht⟩)
  rw [him] at key
  rw [← lg_entry_eq] at key
  obtain ⟨t, st1, ⟨kd, v, h', n', sy', cs', ss'⟩, ho, oc, ad', rs', locs', cells', slots', e1, e2, e3, e4, e5, e6, e7, e8, e9, e10, e11, e12⟩ := key (((T.setVm vm₁).setTop (F0 m pc ls restv)).pushFrame (.java (entryFrame mk avs.toArray ck.maxLocals))) hTH Y
  dsimp only at e7 e8 e10 e11 e12
  have e9 : va_S (fun x => x ∈ ad ∨ H.size ≤ x) H t.heap locs' := by
    have h := e9
    rw [show ((T.setVm vm₁).calling (F0 m pc ls restv) mk avs.toArray).heap = H from hTH] at h
    exact h
  have hS' : va_S A s.heap t.heap (locs ++ locs') := by
    refine ⟨Nat.le_trans hS.1 e9.1, fun x h1 h2 => ?_, fun z hz => ?_⟩
    · rw [← hS.2.1 x h1 h2]
      exact e9.2.1 x (Nat.lt_of_lt_of_le h1 hS.1) (fun hx => h2 (hAA x hx))
    · rcases List.mem_append.mp hz with hz | hz
      · exact hS.2.2 z hz
      · exact hAA _ (e9.2.2 z hz)
  have hG' : sx_G D K b A ad' rs' h' n' t.heap := e8.weaken (fun x _ hx => hAA x hx)
  obtain ⟨outs', o1, o2⟩ := sx_cont_ok hcont kd v h' n' sy' cs' ss' ho
  have hrest' : ∀ L' : List Nat, L'.length = c.maxLocals → sx_Yok rs' sy' ∧ sx_G D K b A ad' rs' h' n' t.heap ∧ va_S A s.heap t.heap (locs ++ locs') ∧ (∀ k, k < N → rs'[k]? = some (xs k)) ∧ 600002 + (cells + cells') ≤ R.cells + cs' ∧ 7302232 + (slots + slots') ≤ R.slots + ss' ∧ L'.length = c.maxLocals := fun L' hl => ⟨e7, hG', hS', fun k hk => sx_pre e6 (hxs k hk), by have : 600002 + cells' ≤ R.cells - cells + cs' := e10; omega, by have : 7302232 + slots' ≤ R.slots - slots + ss' := e11; omega, hl⟩
  have hdo1 : Steps p.tables e below (doInvoke e ((T.setVm vm₁).setTop (F0 m pc ls restv)) [] mk avs.toArray).1 t := by rw [hdo []]; exact sx_lower st1
  rcases e12 with ⟨k0, rfl⟩ | ⟨k1, x, rfl, hv⟩ | ⟨E, nm, kE, hE, a, cell, rfl, hcell, hcls, hcvm⟩
  · rw [if_pos k0] at o2
    obtain ⟨T2, X2, -, -, ht⟩ := X₁.outOf (g := F0 m pc ls restv) rfl hdg e2 e3 e4
    have hh2 : T2.heap = t.heap := by rw [ht]; rfl
    have go : W p l e R s m args below meth c t.heap (locs ++ locs') (cells + cells') (slots + slots') Q (F0 m (pc + 3) ls restv) := sx_go IH o2 hC ⟨hLc.mono e5 e6, hre.mono e5 e6, hrest' L hr3⟩ hL e5 e6 o1 hQ
    obtain ⟨t3, s3, q3⟩ := go T2 hh2 X2
    exact ⟨t3, hgo _ (hdo1.trans (by rw [ht]; exact s3)), q3⟩
  · rw [if_neg (by omega), if_pos k1] at o2
    obtain ⟨T2, X2, -, -, ht⟩ := X₁.outOf (g := F0 m pc ls restv) rfl hdg e2 e3 e4
    have hh2 : T2.heap = t.heap := by rw [ht]; rfl
    have go : W p l e R s m args below meth c t.heap (locs ++ locs') (cells + cells') (slots + slots') Q (F0 m (pc + 3) ls (x :: restv)) := sx_go IH o2 hC ⟨hLc.mono e5 e6, ⟨hv, hre.mono e5 e6⟩, hrest' L hr3⟩ hL e5 e6 o1 hQ
    obtain ⟨t3, s3, q3⟩ := go T2 hh2 X2
    exact ⟨t3, hgo _ (hdo1.trans (by rw [ht]; exact s3)), q3⟩
  · rw [if_neg (by omega), if_neg (by omega), show kd - 2 = E by omega] at o2
    obtain ⟨T2, X2, -, -, ht⟩ := X₁.outOfThrown (g := F0 m pc ls restv) rfl e2 e3 e4
    have hh2 : T2.heap = t.heap := by rw [ht]; rfl
    have hcls' : s.vm.findClass nm = some cell.cls := by rw [← X₁.warmed.alike.findClass]; exact hcls
    obtain ⟨t3, s3, q3⟩ := sx_back (restv := restv) IH hC (hLc.mono e5 e6) (hrest' L hr3) (hL.mono e5 e6) (fun o ho t ht => hQ o (o1 o ho) t (ht.mono e5 e6)) hM X2 hh2 hE hcell hcls' hcvm o2
    exact ⟨t3, hgo _ (hdo1.trans (by rw [ht]; exact s3)), q3⟩
end SXInv
