/-! ax: behind a call -/
theorem ax_tb_eq (m i : Nat) : ax_tb m i = m.testBit i := by
  unfold ax_tb
  rw [Nat.testBit_eq_decide_div_mod_eq]
  by_cases h : m / 2 ^ i % 2 = 1
  · rw [decide_eq_true h, sx_beq_t (show Nat.mod (Nat.shiftRight m i) 2 = 1 by show m >>> i % 2 = 1; rw [Nat.shiftRight_eq_div_pow]; exact h)]
  · rw [decide_eq_false h, sx_beq_e (show ¬ Nat.mod (Nat.shiftRight m i) 2 = 1 by show ¬ m >>> i % 2 = 1; rw [Nat.shiftRight_eq_div_pow]; exact h)]
theorem ax_tb_sub {a b i : Nat} (h : Nat.land a b = a) (hb : ax_tb b i = false) : ax_tb a i = false := by
  have h : a &&& b = a := h
  rw [ax_tb_eq] at hb ⊢
  rw [← h, Nat.testBit_and, hb, Bool.and_false]
/-- the rest of the run behind a call's end co -/
def cx_K (W : ax_W) (D mi cd pc : Nat) (L rest : List Nat) (hid : Nat) (co : sx_O) (Post : sx_O → Prop) : Prop := ∃ o, (∃ f0, ∀ f, f0 ≤ f → sx_cont (sx_run W.N f) D mi cd [] pc L rest hid [co] = some [o]) ∧ Post o
theorem cx_call {W : ax_W} {D D' mi mj cd cj pc w hid : Nat} {L S rest Lj : List Nat} {hh : sx_H} {cs ss : Nat} {Post : sx_O → Prop} (hw : sx_ft cd pc = w) (hh0 : sx_wh w = 0)
    (hb : ∀ ih, sx_body ih W.N w D mi cd [] pc L S hh 160 W.sy cs ss = Option.rec none (fun outs => sx_cont ih D mi cd [] pc L rest hid outs) (ih D' mj cj [] false 0 Lj [] hh 160 W.sy cs ss))
    (g : cx_G W D' mj cj 0 Lj [] hh cs ss (fun co => cx_K W D mi cd pc L rest hid co Post)) : cx_G W D mi cd pc L S hh cs ss Post := by
  obtain ⟨co, ⟨f1, h1⟩, o, ⟨f2, h2⟩, hP⟩ := g
  refine ⟨o, cx_one hw hh0 hb ⟨f1 + f2, fun f hf => ?_⟩, hP⟩
  rw [h1 f (by omega)]
  exact h2 f (by omega)
section AXC
variable {W : ax_W} {ih : ax_ih} {g : ax_G} {d D mi cd : Nat} {lst : List ax_I} {pc w : Nat} {L S : List Nat} {M : ax_M} {F : ax_F} {Y : ax_Y} {n th : Nat} {ρ : List Nat} {outs : List ax_O} {hh : sx_H} {cs ss : Nat} {cL cS : List Nat} {Post : sx_O → Prop}
/-- what goes on behind one end -/
noncomputable def ax_cn1 (ih : ax_ih) (d mi cd : Nat) (lst : List ax_I) (pc : Nat) (L rest : List Nat) (hid : Nat) (o : ax_O) : ax_R :=
  sx_if (Nat.beq o.1 0) (ax_on ih d mi cd lst o.2.2.2.2.2.2 (Nat.add pc 3) L rest o.2.2.1 o.2.2.2.1 o.2.2.2.2.1 o.2.2.2.2.2.1)
    (sx_if (Nat.beq o.1 1) (ax_on ih d mi cd lst o.2.2.2.2.2.2 (Nat.add pc 3) L (o.2.1 :: rest) o.2.2.1 o.2.2.2.1 o.2.2.2.2.1 o.2.2.2.2.2.1) (ax_thr ih d mi cd lst pc L hid (Nat.sub o.1 2) o.2.2.1 o.2.2.2.1 o.2.2.2.2.1 o.2.2.2.2.2.1 o.2.2.2.2.2.2))
theorem ax_cont_mem {rest : List Nat} {hid : Nat} {ao : ax_O} : ∀ {os outs : List ax_O}, ax_cont ih d mi cd lst pc L rest hid os = some outs → ao ∈ os → ∃ o', ax_cn1 ih d mi cd lst pc L rest hid ao = some o' ∧ ∀ o ∈ o', o ∈ outs
  | [], _, _, hm => by cases hm
  | q :: os, outs, h, hm => by
    have h : ax_app (ax_cn1 ih d mi cd lst pc L rest hid q) (ax_cont ih d mi cd lst pc L rest hid os) = some outs := h
    obtain ⟨o1, o2, a1, a2, rfl⟩ := ax_app_ok h
    rcases List.mem_cons.mp hm with rfl | hm
    · exact ⟨o1, a1, fun o ho => List.mem_append_left _ ho⟩
    · obtain ⟨o', b1, b2⟩ := ax_cont_mem a2 hm
      exact ⟨o', b1, fun o ho => List.mem_append_right _ (b2 o ho)⟩
theorem cx_app1 (r : sx_R) (o : sx_O) (h : r = some [o]) : sx_app r (some []) = some [o] := by rw [h]; rfl
theorem ax_cont_ok (wk : ax_Wk W) (ok : ax_Ok W ih) (dd : d ≤ D) (HL : ax_Ls ρ L cL) {rest crest : List Nat} (HR : ax_Ls ρ rest crest) (Pq : ax_Pq W ρ outs Post) (Hq : ax_Hq W D mi cd ρ lst Post) {hid : Nat} {ao : ax_O} {o' : List ax_O} (h : ax_cn1 ih d mi cd lst pc L rest hid ao = some o') (hs : ∀ o ∈ o', o ∈ outs) {ρ' : List Nat} {co : sx_O} (hp : ρ <+: ρ') (hO : ax_Or W ρ' ao co) : cx_K W D mi cd pc cL crest hid co Post := by
  obtain ⟨akd, av, aM, aF, aY, an, ath⟩ := ao
  obtain ⟨kd, cv, ch, cn, csy, ccs, css⟩ := co
  obtain ⟨k1, k2, k3, k4, X⟩ := hO
  have k1 : kd = akd := k1
  have k3 : cn = 160 := k3
  have k4 : csy = W.sy := k4
  subst k1 k3 k4
  have go : ∀ {p : Nat} {L' S' cL' cS' : List Nat} {o1 : List ax_O}, ax_on ih d mi cd lst ath p L' S' aM aF aY an = some o1 → (∀ o ∈ o1, o ∈ outs) → ax_Ls ρ' L' cL' → ax_Ls ρ' S' cS' → (∀ ih : sx_ih, sx_cont ih D mi cd [] pc cL crest hid [(kd, cv, ch, 160, W.sy, ccs, css)] = sx_app (ih D mi cd [] false p cL' cS' ch 160 W.sy ccs css) (some [])) → cx_K W D mi cd pc cL crest hid (kd, cv, ch, 160, W.sy, ccs, css) Post := by
    intro p L' S' cL' cS' o1 q1 q2 q3 q4 q5
    obtain ⟨o, ⟨f0, hf⟩, ho⟩ := ax_go ok dd Pq Hq q1 q2 hp X q3 q4
    exact ⟨o, ⟨f0, fun f hle => by rw [q5]; exact cx_app1 _ _ (hf f hle)⟩, ho⟩
  rcases ax_if h with ⟨c0, h1⟩ | ⟨c0, h1⟩
  · refine go h1 hs (HL.mono' hp) (HR.mono' hp) (fun ih => ?_)
    show sx_app (sx_if (Nat.beq kd 0) _ _) (some []) = _
    rw [show Nat.beq kd 0 = true from c0, sx_if_t, sx_fo_eq]
  · rcases ax_if h1 with ⟨c1, h2⟩ | ⟨c1, h2⟩
    · refine go h2 hs (HL.mono' hp) (ax_Ls.cons (k2 (sx_beq c1)) (HR.mono' hp)) (fun ih => ?_)
      show sx_app (sx_if (Nat.beq kd 0) _ _) (some []) = _
      rw [show Nat.beq kd 0 = false from c0, sx_if_f, show Nat.beq kd 1 = true from c1, sx_if_t, sx_fo_eq]
    · have c0' : ¬ kd = 0 := sx_beq_f c0
      have c1' : ¬ kd = 1 := sx_beq_f c1
      have hcont : ∀ ih : sx_ih, sx_cont ih D mi cd [] pc cL crest hid [(kd, cv, ch, 160, W.sy, ccs, css)] = sx_app (sx_thr ih D mi cd [] pc cL hid (Nat.sub kd 2) ch 160 W.sy ccs css) (some []) := fun ih => by
        show sx_app (sx_if (Nat.beq kd 0) _ _) (some []) = _
        rw [show Nat.beq kd 0 = false from c0, sx_if_f, show Nat.beq kd 1 = false from c1, sx_if_f]
      have h2 : ax_thr ih d mi cd lst pc L hid (Nat.sub kd 2) aM aF aY an ath = some o' := h2
      unfold ax_thr at h2
      rcases ax_if h2 with ⟨c2, h3⟩ | ⟨c2, h3⟩
      · cases h3
        refine ⟨(Nat.add 2 (Nat.sub kd 2), 0, ch, 160, W.sy, ccs, css), ⟨0, fun f _ => ?_⟩, Pq _ (hs _ List.mem_cons_self) ρ' _ hp ⟨rfl, fun q => ?_, rfl, rfl, X⟩⟩
        · rw [hcont]
          apply cx_app1
          unfold sx_thr
          rw [c2, sx_if_t]
        · have q : 2 + (kd - 2) = 1 := q
          omega
      · obtain ⟨hs', hh', h4⟩ := ax_opt_h h3
        rw [sx_fo_eq] at h4
        rcases ax_if h4 with ⟨-, h5⟩ | ⟨c3, h5⟩
        · cases h5
        · rw [sx_fo_eq] at h5
          obtain ⟨c4, h6⟩ := ax_if0 h5
          obtain ⟨d1, d2⟩ := sx_and_ok c4
          obtain ⟨d2, d3⟩ := sx_and_ok d2
          obtain ⟨d3, d4⟩ := sx_and_ok d3
          rw [sx_stK_eq] at h6
          refine go h6 hs ((HL.mono' hp).set ax_V.seven _) ax_Ls.nil (fun ih => ?_)
          rw [hcont]
          unfold sx_thr
          rw [c2, sx_if_f, hh']
          show sx_app (sx_fo _ _) _ = _
          rw [sx_fo_eq, c3, sx_if_f, sx_fo_eq, d1, d2, ax_pv_ok HL d3, HL.len, d4, cx_at, cx_at, cx_at, sx_if_t, sx_fo_eq, sx_stK_eq]
theorem ax_tk_ok : ∀ (m : Nat) {S cS acc cacc : List Nat} {K : List Nat → List Nat → ax_R}, ax_tk m S acc K = some outs → ax_Ls ρ S cS → ax_Ls ρ acc cacc → ∃ av rest cav crest, K av rest = some outs ∧ ax_Ls ρ av cav ∧ ax_Ls ρ rest crest ∧ ∀ K' : List Nat → List Nat → sx_R, sx_tk m cS cacc K' = K' cav crest
  | 0, S, cS, acc, cacc, K, h, HS, HA => ⟨acc, S, cacc, cS, h, HA, HS, fun _ => rfl⟩
  | m + 1, [], cS, acc, cacc, K, h, HS, HA => by cases h
  | m + 1, a :: S, cS, acc, cacc, K, h, HS, HA => by
    obtain ⟨v, r, rfl, hv, H⟩ := HS.c
    obtain ⟨av, rest, cav, crest, h1, h2, h3, h4⟩ := ax_tk_ok m (S := S) (cS := r) (acc := a :: acc) (cacc := v :: cacc) h H (ax_Ls.cons hv HA)
    exact ⟨av, rest, cav, crest, h1, h2, h3, fun K' => h4 K'⟩
theorem ax_pd_ok : ∀ m : Nat, ax_Ls ρ (sx_pd m) (sx_pd m)
  | 0 => ax_Ls.nil
  | m + 1 => ax_Ls.cons ax_V.seven (ax_pd_ok m)
theorem ax_map_h {α β : Type} {f : α → β} {o : Option α} {b : β} (h : Option.map f o = some b) : ∃ a, o = some a ∧ f a = b := by
  cases o with
  | none => cases h
  | some a => exact ⟨a, rfl, Option.some.inj h⟩
theorem ax_xp_ok : ∀ {av cav : List Nat} {m : Nat} {Lj : List Nat}, ax_xp av m = some Lj → ax_Ls ρ av cav → ∃ cLj, sx_xp cav m = some cLj ∧ ax_Ls ρ Lj cLj
  | [], [], m, Lj, h, _ => by
    cases h
    exact ⟨sx_pd m, rfl, ax_pd_ok m⟩
  | [], _ :: _, _, _, _, H => H.elim
  | _ :: _, [], _, _, _, H => H.elim
  | a :: av, v :: cav, 0, Lj, h, H => by cases h
  | a :: av, v :: cav, m + 1, Lj, h, H => by
    have h : sx_if (ax_lg a) (Nat.rec none (fun n2 _ => Option.map (fun t => a :: 7 :: t) (ax_xp av n2)) m) (sx_if (ax_nl a) (Option.map (fun t => a :: t) (ax_xp av m)) none) = some Lj := h
    have hb : sx_xp (v :: cav) (m + 1) = sx_if (Nat.beq (sx_tg v) 4) (Nat.rec none (fun n2 _ => Option.map (fun t => v :: 7 :: t) (sx_xp cav n2)) m) (Option.map (fun t => v :: t) (sx_xp cav m)) := rfl
    rw [hb]
    cases c : ax_lg a with
    | true =>
      rw [c, sx_if_t] at h
      rw [sx_beq_t (show sx_tg v = 4 from (H.1.lg c).1), sx_if_t]
      cases m with
      | zero => cases h
      | succ m2 =>
        obtain ⟨t, h1, h2⟩ := ax_map_h h
        obtain ⟨ct, k1, k2⟩ := ax_xp_ok h1 H.2
        refine ⟨v :: 7 :: ct, ?_, ?_⟩
        · show Option.map (fun t => v :: 7 :: t) (sx_xp cav m2) = _
          rw [k1]; rfl
        · rw [← h2]
          exact ax_Ls.cons H.1 (ax_Ls.cons ax_V.seven k2)
    | false =>
      rw [c, sx_if_f] at h
      cases c2 : ax_nl a with
      | false => rw [c2, sx_if_f] at h; cases h
      | true =>
        rw [c2, sx_if_t] at h
        rw [sx_beq_e (show ¬ sx_tg v = 4 from H.1.nl c2), sx_if_f]
        obtain ⟨t, h1, h2⟩ := ax_map_h h
        obtain ⟨ct, k1, k2⟩ := ax_xp_ok h1 H.2
        refine ⟨v :: ct, by rw [k1]; rfl, ?_⟩
        rw [← h2]
        exact ax_Ls.cons H.1 k2
end AXC
