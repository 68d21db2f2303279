/-! sx: what comes back -/
section SXBack
variable {N : Nat} {ih : sx_ih} {w d mi pc n cs ss : Nat} {lst : List sx_I} {L S : List Nat} {h : sx_H} {sy : sx_Y} {outs : List sx_O}
variable {p : Program} {l : Launch} {e : Env} {R : Room} {s : State} {m : MethodId} {args : Array Value} {below : List Frame} {meth : Method} {c : Code} {D : va_G} {K : ClassId → FieldType → Prop} {b : Nat → Nat} {xs : Nat → Int32} {A : Nat → Prop} {q : sx_M}
variable {ad : List Nat} {rs : List Int32} {ls : Array Slot} {st : List Value} {H : Heap} {locs : List Loc} {cells slots : Nat} {Q : State → Prop}
theorem sx_Lc.store7 (hl : sx_Lc b ad rs L ls) {i : Nat} {x : Value} {ls' : Array Slot} (hi : i < L.length) (hp : i = 0 ∨ sx_ln L (i - 1) % 8 ≠ 4)
    (h' : lv_has ls' ls.size ((i, x) :: (sx_all ls).filter (fun q => !(q.1 == i) && !(q.1 + 1 == i && q.2.category == 2)))) : sx_Lc b ad rs (L.set i 7) ls' := by
  refine ⟨by rw [h'.1, List.length_set]; exact hl.1, h'.2.1, fun j u hj h7 => ?_⟩
  by_cases hji : j = i
  · subst hji
    rw [List.getElem?_set_self hi] at hj
    cases hj
    exact absurd rfl h7
  · rw [List.getElem?_set_ne (Ne.symm hji)] at hj
    obtain ⟨y, hy, hvy⟩ := hl.2.2 j u hj h7
    refine ⟨y, h'.2.2 (j, y) (List.mem_cons_of_mem _ (List.mem_filter.mpr ⟨sx_all_mem.mpr hy, ?_⟩)), hvy⟩
    have hcat : ¬ (j + 1 = i ∧ y.category = 2) := by
      rintro ⟨hj1, hc⟩
      have : sx_ln L (i - 1) = u := by rw [sx_ln_eq, show i - 1 = j by omega, List.getD_eq_getElem?_getD, hj]; rfl
      rw [this] at hp
      have h4 : u % 8 ≠ 4 := hp.resolve_left (by omega)
      rw [hvy.c1 h4] at hc
      cases hc
    simp only [Bool.and_eq_true, Bool.not_eq_true', beq_eq_false_iff_ne, ne_eq, Bool.and_eq_false_imp, beq_iff_eq]
    exact ⟨hji, fun hj1 hc => hcat ⟨hj1, hc⟩⟩
theorem sx_cont_ok {rest : List Nat} {hid : Nat} : ∀ {outsj outs : List sx_O}, sx_cont ih d mi (sx_mt mi).1 lst pc L rest hid outsj = some outs → ∀ (kd v : Nat) (h' : sx_H) (n' : Nat) (sy' : sx_Y) (cs' ss' : Nat), (kd, v, h', n', sy', cs', ss') ∈ outsj → ∃ outs', (∀ o ∈ outs', o ∈ outs) ∧
      (if kd = 0 then ih d mi (sx_mt mi).1 lst false (pc + 3) L rest h' n' sy' cs' ss' else if kd = 1 then ih d mi (sx_mt mi).1 lst false (pc + 3) L (v :: rest) h' n' sy' cs' ss' else sx_thr ih d mi (sx_mt mi).1 lst pc L hid (kd - 2) h' n' sy' cs' ss') = some outs'
  | [], outs, _, kd, v, h', n', sy', cs', ss', hm => by cases hm
  | o :: r, outs, h, kd, v, h', n', sy', cs', ss', hm => by
    obtain ⟨x, y, hx, hy, e⟩ := sx_app_ok h
    rcases List.mem_cons.mp hm with rfl | hm
    · refine ⟨x, fun o ho => by rw [e]; exact List.mem_append_left _ ho, ?_⟩
      have hx : sx_if (Nat.beq kd 0) (sx_fo (Nat.add pc 3) (fun pc' => ih d mi (sx_mt mi).1 lst false pc' L rest h' n' sy' cs' ss')) (sx_if (Nat.beq kd 1) (sx_fo (Nat.add pc 3) (fun pc' => ih d mi (sx_mt mi).1 lst false pc' L (v :: rest) h' n' sy' cs' ss')) (sx_thr ih d mi (sx_mt mi).1 lst pc L hid (Nat.sub kd 2) h' n' sy' cs' ss')) = some x := hx
      simp only [sx_fo_eq] at hx
      by_cases k0 : kd = 0
      · rw [sx_beq_t k0, sx_if_t] at hx; rw [if_pos k0]; exact hx
      · rw [sx_beq_e k0, sx_if_f] at hx
        rw [if_neg k0]
        by_cases k1 : kd = 1
        · rw [sx_beq_t k1, sx_if_t] at hx; rw [if_pos k1]; exact hx
        · rw [sx_beq_e k1, sx_if_f] at hx; rw [if_neg k1]; exact hx
    · obtain ⟨outs', q1, q2⟩ := sx_cont_ok hy kd v h' n' sy' cs' ss' hm
      exact ⟨outs', fun o ho => by rw [e]; exact List.mem_append_right _ (q1 o ho), q2⟩
theorem sx_at_none {e' : va_E} {a : Nat} {cell : Cell} (h : va_at D sx_classes (a, e') H) (hc : H[a]? = some cell) : cell.vm = .none := by
  cases e' with
  | inl x =>
    obtain ⟨cA, k, y⟩ := x
    have h : H[a]? = some (vp_cell cA (k, y)) := h
    cases hc.symm.trans h
    rcases y with f | f | f | f | f <;> rfl
  | inr o =>
    obtain ⟨r, h1, cl, h2, h3, h4, h5⟩ := h
    cases hc.symm.trans h2
    exact h4
theorem sx_hB_ok {hid : Nat} (h : sx_hB hid q = true) : (hid = 0 → q.2.2.2.2 = []) ∧ (hid ≠ 0 → ∃ hh, sx_hands[hid]? = some hh ∧ hh.length = q.2.2.2.2.length ∧ ∀ z ∈ hh.zip q.2.2.2.2, z.1.1 = z.2.1 ∧ z.1.2.1 = z.2.2.1 ∧ z.1.2.2.1 = z.2.2.2.1 ∧ z.2.2.2.2 ≠ 0 ∧ ∃ t, sx_cl[z.1.2.2.2.2]? = some t ∧ t.1 = q.1.cls ∧ t.2.1 = z.2.2.2.2 ∧ sx_exc[z.1.2.2.2.1]? = some t.2.2) := by
  unfold sx_hB at h
  refine ⟨fun h0 => by rw [if_pos h0] at h; exact of_decide_eq_true h, fun h0 => ?_⟩
  rw [if_neg h0] at h
  obtain ⟨hh, h1, h2⟩ := sx_oa_ok h
  simp only [Bool.and_eq_true, decide_eq_true_eq] at h2
  refine ⟨hh, h1, h2.1, fun z hz => ?_⟩
  have h3 := List.all_eq_true.mp h2.2 z hz
  simp only [Bool.and_eq_true, decide_eq_true_eq] at h3
  obtain ⟨a1, a2, a3, a4, a5⟩ := h3
  obtain ⟨t, ht, a5⟩ := sx_oa_ok a5
  simp only [Bool.and_eq_true, decide_eq_true_eq] at a5
  obtain ⟨X, hX, hX2⟩ := sx_oa_ok a5.2.2
  exact ⟨a1, a2, a3, a4, t, ht, a5.1, a5.2.1, by rw [← of_decide_eq_true hX2]; exact hX⟩
theorem sx_back (IH : sx_Ok N ih) (hC : sx_Cx p e R s m meth c D K b N xs A mi d q) (hLc : sx_Lc b ad rs L ls) (hrest : sx_Yok rs sy ∧ sx_G D K b A ad rs h n H ∧ va_S A s.heap H locs ∧ (∀ k, k < N → rs[k]? = some (xs k)) ∧ 600002 + cells ≤ R.cells + cs ∧ 7302232 + slots ≤ R.slots + ss ∧ L.length = c.maxLocals) (hL : sx_Ls p l e R s m args below meth c D K b N xs A Q ad rs lst) (hQ : ∀ o ∈ outs, ∀ t, sx_En R s below D K b A ad rs o t → Q t) {T2 : State} {a : Addr} {cell : Cell} {E : Nat} {nm : String} (hM : sx_Mok mi q) (X : Stand p l e R s m args below meth c T2 locs cells slots) (hH : T2.heap = H) (hE : sx_exc[E]? = some nm) (hcell : H[a]? = some cell) (hcls : s.vm.findClass nm = some cell.cls) (hvm : cell.vm = .none) (hr : sx_thr ih d mi (sx_mt mi).1 lst pc L (sx_ihd (sx_mt mi).2) E h n sy cs ss = some outs) {restv : List Value} :
    ∃ t, Steps p.tables e below ((T2.setTop (F0 m pc ls restv)).pushFrame (.throwing a)) t ∧ Q t := by
  obtain ⟨-, hx, -, hb, hml, -, -, hex, hown, hlocks, hT, -⟩ := id hC
  obtain ⟨hY, hG, hS, hxs, hr1, hr2, hr3⟩ := id hrest
  obtain ⟨hb0, hb1⟩ := sx_hB_ok hM.2.2.2.2.1
  unfold sx_thr at hr
  cases h0 : Nat.beq (sx_ihd (sx_mt mi).2) 0 with
  | true =>
    rw [h0, sx_if_t] at hr
    cases hr
    have hex0 : c.exceptionTable.toList = [] := by
      rw [hb0 (sx_beq h0)] at hex
      exact List.map_eq_nil_iff.mp hex
    obtain ⟨w1, w2, w3, w4, w5⟩ := X.leaveThrown a (g := F0 m pc ls restv) rfl rfl rfl (by rw [hex0]; intro x hx; cases hx) hlocks
    refine ⟨_, w1, hQ _ (List.mem_singleton.mpr rfl) _ ⟨.threw a, ad, rs, locs, cells, slots, w2, w3, w4, w5, List.prefix_rfl, List.prefix_rfl, hY, ?_, ?_, hr1, hr2, Or.inr (Or.inr ⟨E, nm, Nat.add_comm _ _, hE, a, cell, rfl, ?_, hcls, hvm⟩)⟩⟩
    · show sx_G D K b A ad rs h n T2.heap; rw [hH]; exact hG
    · show va_S A s.heap T2.heap locs; rw [hH]; exact hS
    · show T2.heap[a]? = some cell; rw [hH]; exact hcell
  | false =>
    rw [h0, sx_if_f] at hr
    obtain ⟨hh, hhh, hr⟩ := sx_opt_ok hr
    rw [sx_nth_eq] at hhh
    simp only [sx_fo_eq] at hr
    cases ht0 : Nat.beq (sx_hnd pc hh E) 0 with
    | true => rw [ht0] at hr; cases hr
    | false =>
    rw [ht0, sx_if_f] at hr
    obtain ⟨hc, hr⟩ := sx_if_ok hr
    obtain ⟨o3, hc⟩ := sx_and_ok hc
    obtain ⟨o4, hc⟩ := sx_and_ok hc
    obtain ⟨o5, o6⟩ := sx_and_ok hc
    have hp := sx_st_ok o5
    obtain ⟨hh', k1, k2, k3⟩ := hb1 (sx_beq_f h0)
    cases hhh.symm.trans k1
    rw [← hex] at k2 k3
    have hpl : e.platform.magicAccessors = ({} : Platform).magicAccessors := by rw [X.admits.platform]
    obtain ⟨vm₁, hW₁, hfind⟩ := sx_find (T := T2) (g := F0 m pc ls restv) hpl rfl hT hown hE (by rw [hH]; exact hcell) hcls hvm hh c.exceptionTable.toList (by rw [k2, List.length_map]) k3 (sx_beq_f ht0) T2.vm X.warmed
    have hkey : W p l e R s m args below meth c H locs cells slots Q (F0 m (sx_hnd pc hh E - 1) ls [.ref a]) := by
      obtain ⟨len, hmw⟩ := hM.1
      have hwd := sx_mw_ok hmw (sx_hnd pc hh E - 1) (by rw [show sx_op (sx_ft (sx_mt mi).1 (sx_hnd pc hh E - 1)) = 3 from sx_beq o3]; decide)
      generalize hw : sx_ft (sx_mt mi).1 (sx_hnd pc hh E - 1) = w' at hwd
      have hr : sx_stK 7 L (sx_wa w') (fun L => ih d mi (sx_mt mi).1 lst false (Nat.add (sx_hnd pc hh E - 1) (Nat.mod (sx_wb w') 16)) L [] h n sy cs ss) = some outs := by rw [← hw]; exact hr
      have o3 : sx_op w' = 3 := by rw [← hw]; exact sx_beq o3
      have o4 : sx_wb w' / 16 = 1 := by rw [← hw]; exact sx_beq o4
      have o6 : sx_wa w' < L.length := by rw [← hw]; exact sx_blt o6
      have hp : sx_wa w' = 0 ∨ sx_ln L (sx_wa w' - 1) % 8 ≠ 4 := by rw [← hw]; exact hp
      rw [sx_stK_eq] at hr
      unfold sx_wd at hwd
      rw [o3] at hwd
      have hwd : sx_k3 q (sx_hnd pc hh E - 1) w' = true := hwd
      unfold sx_k3 at hwd
      rw [if_neg (show ¬ sx_wb w' = 1 by omega), if_neg (show ¬ sx_wb w' = 2 by omega)] at hwd
      have fin : ∀ ls', lv_has ls' ls.size ((sx_wa w', Value.ref a) :: (sx_all ls).filter (fun q => !(q.1 == sx_wa w') && !(q.1 + 1 == sx_wa w' && q.2.category == 2))) → W p l e R s m args below meth c H locs cells slots Q (F0 m (Nat.add (sx_hnd pc hh E - 1) (Nat.mod (sx_wb w') 16)) ls' []) := fun ls' hl' => sx_go IH hr hC ⟨hLc.store7 o6 hp hl', trivial, hY, hG, hS, hxs, hr1, hr2, by rw [List.length_set]; exact hr3⟩ hL List.prefix_rfl List.prefix_rfl (fun _ h => h) hQ
      by_cases w17 : sx_wb w' = 17
      · rw [if_pos w17] at hwd
        simp only [Bool.and_eq_true, decide_eq_true_eq] at hwd
        rw [w17] at fin
        exact lv_astore_n hx hb (sx_dc_ok hwd.2) (Nat.mod_eq_of_lt hwd.1) (sx_all_has hLc.2.1) (by rw [hLc.1]; exact o6) rfl fin
      · rw [if_neg w17] at hwd
        by_cases w18 : sx_wb w' = 18
        · rw [if_pos w18] at hwd
          rw [w18] at fin
          exact lv_astore hx hb (sx_dc_ok hwd) (sx_all_has hLc.2.1) (by rw [hLc.1]; exact o6) rfl fin
        · rw [if_neg w18] at hwd
          exfalso
          by_cases w33 : sx_wb w' = 33
          · omega
          · rw [if_neg w33] at hwd
            simp only [Bool.and_eq_true, decide_eq_true_eq] at hwd
            omega
    obtain ⟨t, s1, s2⟩ := hkey (T2.setVm vm₁) hH (X.noted hW₁)
    refine ⟨t, sx_caught (g := F0 m pc ls restv) (k := sx_hnd pc hh E - 1) (vm1 := vm₁) X rfl hW₁ (fun Q' E' d' acts => ?_) s1, s2⟩
    rw [Jvm.W.findHandler_eq (f := F0 m pc ls restv) (s := (T2.setTop (F0 m pc ls restv)).pushFrame (.throwing a)) (meth := meth) (code := c) X.method' X.code]
    exact hfind Q' E' d' acts
end SXBack
