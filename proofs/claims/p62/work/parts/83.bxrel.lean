/-! joined: 83.bxrel 83.bycx 83.bzops 83.bzpops 83.bzqheap 83.bzrput 83.bzsmem 83.bztmem 83.bzucall 83.bzvcon -/
section
/-! ax: where a run stands, concrete and abstract -/
/-- the script's length, the script, the cells at the entry, what may be written, cells and places made before, throws at most, the length's value -/
abbrev ax_W : Type := Nat × sx_Y × sx_H × Nat × Nat × Nat × Nat × Nat
abbrev ax_W.N (W : ax_W) : Nat := W.1
abbrev ax_W.sy (W : ax_W) : sx_Y := W.2.1
abbrev ax_W.h0 (W : ax_W) : sx_H := W.2.2.1
abbrev ax_W.md (W : ax_W) : Nat := W.2.2.2.1
abbrev ax_W.cb (W : ax_W) : Nat := W.2.2.2.2.1
abbrev ax_W.sb (W : ax_W) : Nat := W.2.2.2.2.2.1
abbrev ax_W.lim (W : ax_W) : Nat := W.2.2.2.2.2.2.1
abbrev ax_W.nv (W : ax_W) : Nat := W.2.2.2.2.2.2.2
def ax_Wk (W : ax_W) : Prop := W.N < 2147483648 ∧ (∀ i, i < W.N → ∃ P e, W.sy[i]? = some e ∧ e.1 = sx_b P ∧ e.2.1 = sx_b P) ∧ W.cb + W.lim ≤ 600002 ∧ W.sb + 6 * W.lim ≤ 7302232
theorem ax_Wk.nN {W : ax_W} (h : ax_Wk W) : W.N < 2147483648 := h.1
theorem ax_Wk.scr {W : ax_W} (h : ax_Wk W) : ∀ i, i < W.N → ∃ P e, W.sy[i]? = some e ∧ e.1 = sx_b P ∧ e.2.1 = sx_b P := h.2.1
theorem ax_Wk.rm1 {W : ax_W} (h : ax_Wk W) : W.cb + W.lim ≤ 600002 := h.2.2.1
theorem ax_Wk.rm2 {W : ax_W} (h : ax_Wk W) : W.sb + 6 * W.lim ≤ 7302232 := h.2.2.2
/-- the concrete run ends in o -/
def cx_Ev (W : ax_W) (D mi cd pc : Nat) (L S : List Nat) (h : sx_H) (cs ss : Nat) (o : sx_O) : Prop := ∃ f0, ∀ f, f0 ≤ f → sx_run W.N f D mi cd [] false pc L S h 160 W.sy cs ss = some [o]
def cx_G (W : ax_W) (D mi cd pc : Nat) (L S : List Nat) (h : sx_H) (cs ss : Nat) (Post : sx_O → Prop) : Prop := ∃ o, cx_Ev W D mi cd pc L S h cs ss o ∧ Post o
section CX
variable {W : ax_W} {D mi cd pc pc' w : Nat} {L S L' S' : List Nat} {h h' : sx_H} {cs ss cs' ss' : Nat} {Post : sx_O → Prop}
theorem cx_run_eq (N f D mi cd pc : Nat) (L S : List Nat) (h : sx_H) (n : Nat) (sy : sx_Y) (cs ss : Nat) : sx_run N (f + 1) D mi cd [] false pc L S h n sy cs ss = sx_step (sx_run N f) N D mi cd [] pc L S h n sy cs ss false := rfl
theorem cx_one {F : sx_ih → sx_R} {o : sx_O} (hw : sx_ft cd pc = w) (hh : sx_wh w = 0) (hb : ∀ ih, sx_body ih W.N w D mi cd [] pc L S h 160 W.sy cs ss = F ih) (hF : ∃ f0, ∀ f, f0 ≤ f → F (sx_run W.N f) = some [o]) : cx_Ev W D mi cd pc L S h cs ss o := by
  obtain ⟨f0, hf⟩ := hF
  refine ⟨f0 + 1, fun f hle => ?_⟩
  obtain ⟨f', rfl⟩ : ∃ f', f = f' + 1 := ⟨f - 1, by omega⟩
  rw [cx_run_eq]
  unfold sx_step
  rw [sx_fo_eq, hw, sx_if_f, sx_beq_t hh, sx_if_t, hb]
  exact hf f' (by omega)
theorem cx_step (hw : sx_ft cd pc = w) (hh : sx_wh w = 0) (g : cx_G W D mi cd pc' L' S' h' cs' ss' Post) (hb : ∀ ih, sx_body ih W.N w D mi cd [] pc L S h 160 W.sy cs ss = ih D mi cd [] false pc' L' S' h' 160 W.sy cs' ss') : cx_G W D mi cd pc L S h cs ss Post := by
  obtain ⟨o, ⟨f0, hf⟩, ho⟩ := g
  exact ⟨o, cx_one hw hh hb ⟨f0, hf⟩, ho⟩
theorem cx_end {o : sx_O} (hw : sx_ft cd pc = w) (hh : sx_wh w = 0) (ho : Post o) (hb : ∀ ih, sx_body ih W.N w D mi cd [] pc L S h 160 W.sy cs ss = some [o]) : cx_G W D mi cd pc L S h cs ss Post := ⟨o, cx_one hw hh hb ⟨0, fun _ _ => rfl⟩, ho⟩
end CX
/-! values -/
/-- a reference that is what it says -/
def ax_Rk (v : Nat) : Prop := 2 ≤ v % 8 ∧ v % 8 ≤ 6 ∧ v < 4722366482869645213696 ∧ (v % 8 = 2 → v / 8 < 160)
def ax_V (ρ : List Nat) (a v : Nat) : Prop :=
  (a % 8 ≤ 1 ∧ ∃ P, ax_J ρ a (sx_b P) ∧ v = sx_i P) ∨ (ax_Rk a ∧ v = a) ∨ (a = 7 ∧ v % 8 ≠ 4) ∨ (a = 15 ∧ v = 15) ∨ (a = 23 ∧ v % 8 = 4 ∧ v < 4722366482869645213696) ∨ (a = 31 ∧ v % 8 = 4 ∧ v < 4722366482869645213696 ∧ v / 8 % 18446744073709551616 ≠ 0) ∨ a = 39
section AXV
variable {ρ ρ' : List Nat} {a v : Nat} {P : Int32}
theorem ax_V.mono (h : ax_V ρ a v) (hp : ρ <+: ρ') : ax_V ρ' a v := by
  rcases h with ⟨h1, P, h2, h3⟩ | h
  · exact Or.inl ⟨h1, P, h2.mono hp, h3⟩
  · exact Or.inr h
theorem ax_V.int (h : ax_J ρ a (sx_b P)) : ax_V ρ a (sx_i P) := Or.inl ⟨by have := h.tag; omega, P, h, rfl⟩
theorem ax_V.toInt (h : ax_V ρ a v) (t : a % 8 ≤ 1) : ∃ P, ax_J ρ a (sx_b P) ∧ v = sx_i P := by
  rcases h with ⟨-, h⟩ | ⟨⟨h, -⟩, -⟩ | ⟨h, -⟩ | ⟨h, -⟩ | ⟨h, -⟩ | ⟨h, -⟩ | h
  · exact h
  all_goals omega
theorem ax_V.toRef (h : ax_V ρ a v) (t1 : 2 ≤ a % 8) (t2 : a % 8 ≤ 6) : ax_Rk a ∧ v = a := by
  rcases h with ⟨h, -⟩ | h | ⟨h, -⟩ | ⟨h, -⟩ | ⟨h, -⟩ | ⟨h, -⟩ | h
  · omega
  · exact h
  all_goals omega
theorem ax_V.ref (h : ax_Rk a) : ax_V ρ a a := Or.inr (Or.inl ⟨h, rfl⟩)
theorem ax_i_t (P : Int32) : sx_i P % 8 = 0 := (sx_i_ok P).1
theorem ax_V.lg (h : ax_V ρ a v) (t : ax_lg a = true) : v % 8 = 4 ∧ v < 4722366482869645213696 := by
  unfold ax_lg at t
  rcases ax_or t with q | q
  · have q : a % 8 = 4 := sx_beq q
    obtain ⟨k, rfl⟩ := h.toRef (by omega) (by omega)
    exact ⟨q, k.2.2.1⟩
  · rcases ax_or q with q | q
    · have q := sx_beq q
      subst q
      rcases h with ⟨h, -⟩ | ⟨⟨-, h, -⟩, -⟩ | ⟨h, -⟩ | ⟨h, -⟩ | ⟨-, h⟩ | ⟨h, -⟩ | h
      all_goals first | exact h | omega
    · have q := sx_beq q
      subst q
      rcases h with ⟨h, -⟩ | ⟨⟨-, h, -⟩, -⟩ | ⟨h, -⟩ | ⟨h, -⟩ | ⟨h, -⟩ | ⟨-, h1, h2, -⟩ | h
      all_goals first | exact ⟨h1, h2⟩ | omega
theorem ax_V.nl (h : ax_V ρ a v) (t : ax_nl a = true) : v % 8 ≠ 4 := by
  unfold ax_nl at t
  cases hl : ax_lg a with
  | true => rw [hl] at t; cases t
  | false =>
    rw [hl, sx_if_f] at t
    have ne : a ≠ 39 := fun q => by rw [q] at t; exact absurd t (by decide)
    rcases h with ⟨h, P, -, rfl⟩ | ⟨h, rfl⟩ | ⟨-, h⟩ | ⟨-, rfl⟩ | ⟨rfl, h⟩ | ⟨rfl, h⟩ | h
    · have := ax_i_t P; omega
    · intro q
      unfold ax_lg at hl
      rw [sx_beq_t (show sx_tg v = 4 from q), sx_if_t] at hl
      cases hl
    · exact h
    · decide
    · exact absurd hl (by decide)
    · exact absurd hl (by decide)
    · exact absurd h ne
theorem ax_V.lgf (h : ax_V ρ a v) (t : ax_nl a = true) : ax_lg a = false := by
  unfold ax_nl at t
  cases hl : ax_lg a with
  | true => rw [hl] at t; cases t
  | false => rfl
/-- as far as the older symbols say it -/
theorem ax_V.down {v0 : Nat} (h : ax_V ρ' a v) (h0 : ax_V ρ a v0) (hp : ρ <+: ρ') : ax_V ρ a v := by
  rcases h with ⟨h1, P, h2, h3⟩ | h
  · obtain ⟨P0, k1, k2⟩ := h0.toInt h1
    have e := (k1.mono hp).uniq h2
    have e := sx_b_inj e
    subst e
    exact Or.inl ⟨h1, P0, k1, h3⟩
  · exact Or.inr h
theorem ax_V.seven : ax_V ρ 7 7 := Or.inr (Or.inr (Or.inl ⟨rfl, by decide⟩))
end AXV
def ax_Ls (ρ : List Nat) : List Nat → List Nat → Prop
  | [], [] => True
  | a :: L, v :: cL => ax_V ρ a v ∧ ax_Ls ρ L cL
  | _, _ => False
theorem ax_Ls.nil {ρ : List Nat} : ax_Ls ρ [] [] := True.intro
theorem ax_Ls.cons {ρ : List Nat} {a v : Nat} {L cL : List Nat} (h1 : ax_V ρ a v) (h2 : ax_Ls ρ L cL) : ax_Ls ρ (a :: L) (v :: cL) := ⟨h1, h2⟩
theorem ax_Ls.mono {ρ ρ' : List Nat} (hp : ρ <+: ρ') : ∀ {L cL : List Nat}, ax_Ls ρ L cL → ax_Ls ρ' L cL
  | [], [], _ => ax_Ls.nil
  | _ :: _, _ :: _, h => ax_Ls.cons (h.1.mono hp) (ax_Ls.mono hp h.2)
  | [], _ :: _, h => h.elim
  | _ :: _, [], h => h.elim
theorem ax_Ls.mono' {ρ ρ' : List Nat} {L cL : List Nat} (h : ax_Ls ρ L cL) (hp : ρ <+: ρ') : ax_Ls ρ' L cL := ax_Ls.mono hp h
theorem ax_Ls.ln {ρ : List Nat} : ∀ {L cL : List Nat}, ax_Ls ρ L cL → ∀ i, ax_V ρ (sx_ln L i) (sx_ln cL i)
  | [], [], _, _ => ax_V.seven
  | _ :: _, _ :: _, h, 0 => h.1
  | _ :: _, _ :: _, h, i + 1 => ax_Ls.ln h.2 i
  | [], _ :: _, h, _ => h.elim
  | _ :: _, [], h, _ => h.elim
theorem ax_Ls.len {ρ : List Nat} : ∀ {L cL : List Nat}, ax_Ls ρ L cL → cL.length = L.length
  | [], [], _ => rfl
  | _ :: _, _ :: _, h => by rw [List.length_cons, List.length_cons, ax_Ls.len h.2]
  | [], _ :: _, h => h.elim
  | _ :: _, [], h => h.elim
theorem ax_Ls.set {ρ : List Nat} {a v : Nat} : ∀ {L cL : List Nat}, ax_Ls ρ L cL → ax_V ρ a v → ∀ i, ax_Ls ρ (L.set i a) (cL.set i v)
  | [], [], _, _, _ => ax_Ls.nil
  | _ :: _, _ :: _, h, hv, 0 => ax_Ls.cons hv h.2
  | _ :: _, _ :: _, h, hv, i + 1 => ax_Ls.cons h.1 (ax_Ls.set h.2 hv i)
  | [], _ :: _, h, _, _ => h.elim
  | _ :: _, [], h, _, _ => h.elim
/-! cells -/
def ax_cl (c : Nat) : ax_C0 := sx_r4 (sx_r4 (sx_r4 (sx_r4 ax_gt (c / 64 % 4)) (c / 16 % 4)) (c / 4 % 4)) (c % 4)
theorem ax_gK_eq {β : Type} (c : Nat) (f : Nat → Nat → List ax_S → β) : ax_gK ax_gt c f = f (ax_cl c).1 (ax_cl c).2.1 (ax_cl c).2.2 := by
  unfold ax_gK
  simp only [sx_g4_eq]
  rfl
def ax_Sv (s : ax_S) (v : Nat) : Prop := (s.2.1 = 0 ∧ ∃ P, v = sx_i P ∧ s.2.2.1 ≤ sx_b P ∧ sx_b P ≤ s.2.2.2.1) ∨ (s.2.1 = 1 ∧ v = s.2.2.1 ∧ ax_Rk s.2.2.1) ∨ (s.2.1 = 2 ∧ (v = s.2.2.1 ∨ v = s.2.2.2.1) ∧ ax_Rk s.2.2.1 ∧ ax_Rk s.2.2.2.1) ∨ (s.2.1 = 3 ∧ v % 8 = 0) ∨ (s.2.1 = 4 ∧ ∃ P, v = sx_i P ∧ ((s.2.2.1 ≤ sx_b P ∧ sx_b P ≤ s.2.2.2.1) ∨ (s.2.2.2.2.1 ≤ sx_b P ∧ sx_b P ≤ s.2.2.2.2.2)))
def ax_Pk (c j v : Nat) : Prop := ∃ s, ax_sg (ax_cl c).2.2 (j % (ax_cl c).2.1) (j % (ax_cl c).2.1) = some s ∧ ax_Sv s v
def ax_ar (c : Nat) : Bool := Nat.ble 100 (Nat.mod (ax_cl c).1 256)
/-- each place within its stretch -/
def ax_Hs (h : sx_H) : Prop := (∀ c, c < 160 → (sx_rd h c).1 = (ax_cl c).1) ∧ ∀ c j, c < 160 → j < (ax_cl c).1 / 256 → ax_Pk c j (sx_get (sx_rd h c).2 j)
theorem ax_Hs.hd {h : sx_H} (q : ax_Hs h) : ∀ c, c < 160 → (sx_rd h c).1 = (ax_cl c).1 := q.1
theorem ax_Hs.pk {h : sx_H} (q : ax_Hs h) : ∀ c j, c < 160 → j < (ax_cl c).1 / 256 → ax_Pk c j (sx_get (sx_rd h c).2 j) := q.2
/-! gx: what is kept: tapes, the house, its image, what is remembered of it -/
def gx_P (k : Nat) : Prop := k = 0 ∨ k = 3 ∨ k = 4 ∨ (68 ≤ k ∧ k < 124)
def gx_h (h : sx_H) (a b : Nat) : Prop := sx_get (sx_rd h a).2 4 = sx_get (sx_rd h b).2 3 ∧ sx_get (sx_rd h a).2 5 = sx_get (sx_rd h b).2 4 ∧ sx_get (sx_rd h a).2 6 = sx_get (sx_rd h b).2 0 ∧ (∀ j, j < 48 → j < sx_get (sx_rd h a).2 5 → sx_get (sx_rd h (a + 3)).2 j = sx_get (sx_rd h b).2 (68 + j)) ∧ (∀ j, j < 8 → sx_get (sx_rd h (a + 4)).2 j = sx_get (sx_rd h b).2 (116 + j)) ∧ sx_get (sx_rd h a).2 6 ≤ 96
def gx (h : sx_H) : Prop := (∀ j, j < 400 → sx_get (sx_rd h 2).2 j = sx_get (sx_rd h 153).2 j) ∧ gx_h h 3 149 ∧ gx_h h 56 150 ∧ (∀ r k, 8 * r < sx_get (sx_rd h 148).2 6 → r < 12 → gx_P k → sx_get (sx_rd h 152).2 (364 * r + k) = sx_get (sx_rd h 149).2 k)
/-- the places of it -/
def gx_K (c j : Nat) : Prop := (c = 149 ∧ gx_P j) ∨ (c = 148 ∧ j = 6) ∨ ((c = 3 ∨ c = 56) ∧ 4 ≤ j ∧ j ≤ 6) ∨ c = 2 ∨ c = 153 ∨ c = 150 ∨ c = 152 ∨ c = 6 ∨ c = 7 ∨ c = 59 ∨ c = 60
theorem gx_cg {h h' : sx_H} (q : ∀ c j, gx_K c j → ¬ (c = 148 ∧ j = 6) → sx_get (sx_rd h' c).2 j = sx_get (sx_rd h c).2 j) (q6 : sx_get (sx_rd h' 148).2 6 = sx_get (sx_rd h 148).2 6 ∨ sx_get (sx_rd h' 148).2 6 = 0) (g : gx h) : gx h' := by
  obtain ⟨g1, g2, g3, g4⟩ := g
  have hm : ∀ a b, (a = 3 ∧ b = 149) ∨ (a = 56 ∧ b = 150) → gx_h h a b → gx_h h' a b := by
    intro a b ab g
    obtain ⟨k1, k2, k3, k4, k5, k6⟩ := g
    have f : ∀ j, 4 ≤ j → j ≤ 6 → sx_get (sx_rd h' a).2 j = sx_get (sx_rd h a).2 j := fun j j1 j2 => q a j (Or.inr (Or.inr (Or.inl ⟨by omega, j1, j2⟩))) (by omega)
    have m : ∀ j, gx_P j → sx_get (sx_rd h' b).2 j = sx_get (sx_rd h b).2 j := fun j hj => by
      rcases ab with ⟨-, rfl⟩ | ⟨-, rfl⟩
      · exact q _ _ (Or.inl ⟨rfl, hj⟩) (by omega)
      · exact q _ _ (by unfold gx_K; omega) (by omega)
    have e1 : ∀ j, sx_get (sx_rd h' (a + 3)).2 j = sx_get (sx_rd h (a + 3)).2 j := fun j => q _ _ (by unfold gx_K; omega) (by omega)
    have e2 : ∀ j, sx_get (sx_rd h' (a + 4)).2 j = sx_get (sx_rd h (a + 4)).2 j := fun j => q _ _ (by unfold gx_K; omega) (by omega)
    refine ⟨?_, ?_, ?_, fun j j1 j2 => ?_, fun j j1 => ?_, by rw [f 6 (by omega) (by omega)]; exact k6⟩
    · rw [f 4 (by omega) (by omega), m 3 (by unfold gx_P; omega)]; exact k1
    · rw [f 5 (by omega) (by omega), m 4 (by unfold gx_P; omega)]; exact k2
    · rw [f 6 (by omega) (by omega), m 0 (by unfold gx_P; omega)]; exact k3
    · rw [f 5 (by omega) (by omega)] at j2
      rw [e1, m _ (by unfold gx_P; omega)]
      exact k4 j j1 j2
    · rw [e2, m _ (by unfold gx_P; omega)]
      exact k5 j j1
  refine ⟨fun j hj => ?_, hm _ _ (Or.inl ⟨rfl, rfl⟩) g2, hm _ _ (Or.inr ⟨rfl, rfl⟩) g3, fun r k hr hr2 hk => ?_⟩
  · rw [q 2 j (by unfold gx_K; omega) (by omega), q 153 j (by unfold gx_K; omega) (by omega)]; exact g1 j hj
  · rw [q 152 _ (by unfold gx_K; omega) (by omega), q 149 k (Or.inl ⟨rfl, hk⟩) (by omega)]
    rcases q6 with e | e
    · rw [e] at hr; exact g4 r k hr hr2 hk
    · omega
/-- m from 364 on is as it was -/
def gx2 (h0 h : sx_H) : Prop := ∀ j, 364 ≤ j → sx_get (sx_rd h 149).2 j = sx_get (sx_rd h0 149).2 j
theorem ax_kp_ok {lo hi v : Nat} (h : ax_kp 149 lo hi v = true) : hi < 364 := sx_blt (show Nat.blt hi 364 = true from h)
/-- what isn't named in md is as in h0 -/
def ax_Fr (h0 : sx_H) (md : Nat) (h : sx_H) : Prop := (∀ c j, c < 160 → j < (ax_cl c).1 / 256 → ax_tb md (ax_bit (ax_ar c) c j) = false → sx_get (sx_rd h c).2 j = sx_get (sx_rd h0 c).2 j) ∧ (ax_tb md 5120 = false → gx2 h0 h)
theorem ax_Fr_refl (md : Nat) (h : sx_H) : ax_Fr h md h := ⟨fun _ _ _ _ _ => rfl, fun _ _ _ => rfl⟩
def ax_Mk (W : ax_W) (ρ : List Nat) (M : ax_M) (h : sx_H) : Prop := ∀ m ∈ M, (m.1 = 999 ∧ ∃ i P e, i < W.N ∧ ax_J ρ m.2.1 (2147483648 + i) ∧ W.sy[i]? = some e ∧ e.1 = sx_b P ∧ ax_V ρ m.2.2 (sx_i P)) ∨ (m.1 < 160 ∧ ∃ j, j < (ax_cl m.1).1 / 256 ∧ ax_J ρ m.2.1 (2147483648 + j) ∧ (ax_ar m.1 = false → m.2.1 = 8 * j) ∧ ax_V ρ m.2.2 (sx_get (sx_rd h m.1).2 j))
def ax_X (W : ax_W) (ρ : List Nat) (M : ax_M) (F : ax_F) (Y : ax_Y) (n th : Nat) (h : sx_H) (cs ss : Nat) : Prop := (ax_Yk ρ Y n) ∧ (ax_Fk ρ F) ∧ (ax_Mk W ρ M h) ∧ (ax_Hs h) ∧ (ax_Fr W.h0 W.md h) ∧ (W.nv % 8 = 1 → ax_J ρ W.nv (2147483648 + W.N)) ∧ (cs ≤ W.cb + th) ∧ (ss ≤ W.sb + 6 * th) ∧ (cs ≤ W.cb + W.lim) ∧ (ss ≤ W.sb + 6 * W.lim)
theorem ax_X.yk {W : ax_W} {ρ : List Nat} {M : ax_M} {F : ax_F} {Y : ax_Y} {n th : Nat} {h : sx_H} {cs ss : Nat} (q : ax_X W ρ M F Y n th h cs ss) : ax_Yk ρ Y n := q.1
theorem ax_X.fk {W : ax_W} {ρ : List Nat} {M : ax_M} {F : ax_F} {Y : ax_Y} {n th : Nat} {h : sx_H} {cs ss : Nat} (q : ax_X W ρ M F Y n th h cs ss) : ax_Fk ρ F := q.2.1
theorem ax_X.mm {W : ax_W} {ρ : List Nat} {M : ax_M} {F : ax_F} {Y : ax_Y} {n th : Nat} {h : sx_H} {cs ss : Nat} (q : ax_X W ρ M F Y n th h cs ss) : ax_Mk W ρ M h := q.2.2.1
theorem ax_X.hs {W : ax_W} {ρ : List Nat} {M : ax_M} {F : ax_F} {Y : ax_Y} {n th : Nat} {h : sx_H} {cs ss : Nat} (q : ax_X W ρ M F Y n th h cs ss) : ax_Hs h := q.2.2.2.1
theorem ax_X.fr {W : ax_W} {ρ : List Nat} {M : ax_M} {F : ax_F} {Y : ax_Y} {n th : Nat} {h : sx_H} {cs ss : Nat} (q : ax_X W ρ M F Y n th h cs ss) : ax_Fr W.h0 W.md h := q.2.2.2.2.1
theorem ax_X.nv {W : ax_W} {ρ : List Nat} {M : ax_M} {F : ax_F} {Y : ax_Y} {n th : Nat} {h : sx_H} {cs ss : Nat} (q : ax_X W ρ M F Y n th h cs ss) : W.nv % 8 = 1 → ax_J ρ W.nv (2147483648 + W.N) := q.2.2.2.2.2.1
theorem ax_X.r1 {W : ax_W} {ρ : List Nat} {M : ax_M} {F : ax_F} {Y : ax_Y} {n th : Nat} {h : sx_H} {cs ss : Nat} (q : ax_X W ρ M F Y n th h cs ss) : cs ≤ W.cb + th := q.2.2.2.2.2.2.1
theorem ax_X.r2 {W : ax_W} {ρ : List Nat} {M : ax_M} {F : ax_F} {Y : ax_Y} {n th : Nat} {h : sx_H} {cs ss : Nat} (q : ax_X W ρ M F Y n th h cs ss) : ss ≤ W.sb + 6 * th := q.2.2.2.2.2.2.2.1
theorem ax_X.r3 {W : ax_W} {ρ : List Nat} {M : ax_M} {F : ax_F} {Y : ax_Y} {n th : Nat} {h : sx_H} {cs ss : Nat} (q : ax_X W ρ M F Y n th h cs ss) : cs ≤ W.cb + W.lim := q.2.2.2.2.2.2.2.2.1
theorem ax_X.r4 {W : ax_W} {ρ : List Nat} {M : ax_M} {F : ax_F} {Y : ax_Y} {n th : Nat} {h : sx_H} {cs ss : Nat} (q : ax_X W ρ M F Y n th h cs ss) : ss ≤ W.sb + 6 * W.lim := q.2.2.2.2.2.2.2.2.2
theorem ax_Mk.mono {W : ax_W} {ρ ρ' : List Nat} {M : ax_M} {h : sx_H} (q : ax_Mk W ρ M h) (hp : ρ <+: ρ') : ax_Mk W ρ' M h := fun m hm => by
  rcases q m hm with ⟨a, i, P, e, b1, b2, b3, b4, b5⟩ | ⟨a, j, b1, b2, b3, b4⟩
  · exact Or.inl ⟨a, i, P, e, b1, b2.mono hp, b3, b4, b5.mono hp⟩
  · exact Or.inr ⟨a, j, b1, b2.mono hp, b3, b4.mono hp⟩
theorem ax_X.mono {W : ax_W} {ρ ρ' : List Nat} {M : ax_M} {F : ax_F} {Y Y' : ax_Y} {n n' th : Nat} {h : sx_H} {cs ss : Nat} (X : ax_X W ρ M F Y n th h cs ss) (hp : ρ <+: ρ') (hY : ax_Yk ρ' Y' n') : ax_X W ρ' M F Y' n' th h cs ss :=
  ⟨hY, X.fk.mono hp, X.mm.mono hp, X.hs, X.fr, fun q => (X.nv q).mono hp, X.r1, X.r2, X.r3, X.r4⟩
theorem ax_X.yf {W : ax_W} {ρ : List Nat} {M : ax_M} {F F' : ax_F} {Y Y' : ax_Y} {n th : Nat} {h : sx_H} {cs ss : Nat} (X : ax_X W ρ M F Y n th h cs ss) (hY : ax_Yk ρ Y' n) (hF : ax_Fk ρ F') : ax_X W ρ M F' Y' n th h cs ss :=
  ⟨hY, hF, X.mm, X.hs, X.fr, X.nv, X.r1, X.r2, X.r3, X.r4⟩
theorem ax_X.m {W : ax_W} {ρ : List Nat} {M M' : ax_M} {F : ax_F} {Y : ax_Y} {n th : Nat} {h : sx_H} {cs ss : Nat} (X : ax_X W ρ M F Y n th h cs ss) (hM : ax_Mk W ρ M' h) : ax_X W ρ M' F Y n th h cs ss :=
  ⟨X.yk, X.fk, hM, X.hs, X.fr, X.nv, X.r1, X.r2, X.r3, X.r4⟩
/-! ends, heads, the run -/
def ax_Or (W : ax_W) (ρ : List Nat) (ao : ax_O) (co : sx_O) : Prop := co.1 = ao.1 ∧ (ao.1 = 1 → ax_V ρ ao.2.1 co.2.1) ∧ co.2.2.2.1 = 160 ∧ co.2.2.2.2.1 = W.sy ∧ ax_X W ρ ao.2.2.1 ao.2.2.2.1 ao.2.2.2.2.1 ao.2.2.2.2.2.1 ao.2.2.2.2.2.2 co.2.2.1 co.2.2.2.2.2.1 co.2.2.2.2.2.2
def ax_Pq (W : ax_W) (ρ : List Nat) (outs : List ax_O) (Post : sx_O → Prop) : Prop := ∀ ao ∈ outs, ∀ ρ' co, ρ <+: ρ' → ax_Or W ρ' ao co → Post co
noncomputable def ax_tst (e : ax_I) (L S : List Nat) (M : ax_M) (F : ax_F) (Y : ax_Y) (n th : Nat) : Bool := sx_if (Nat.beq e.2.1 1) (ax_bw e L S M Y n) (ax_bc e L S M F Y n th)
def ax_Hq (W : ax_W) (D mi cd : Nat) (ρ : List Nat) (lst : List ax_I) (Post : sx_O → Prop) : Prop := ∀ e ∈ lst, ∀ ρ' L S M F Y n th cL cS h cs ss, ρ <+: ρ' → ax_X W ρ' M F Y n th h cs ss → ax_Ls ρ' L cL → ax_Ls ρ' S cS → ax_tst e L S M F Y n th = true → cx_G W D mi cd e.1 cL cS h cs ss Post
def ax_Ok (W : ax_W) (ih : ax_ih) : Prop := ∀ d mi cd lst fl pc L S M F Y n th outs, ih d mi cd lst fl pc L S M F Y n th = some outs → ∀ D ρ cL cS h cs ss Post, d ≤ D → ax_X W ρ M F Y n th h cs ss → ax_Ls ρ L cL → ax_Ls ρ S cS → ax_Pq W ρ outs Post → ax_Hq W D mi cd ρ lst Post → cx_G W D mi cd pc cL cS h cs ss Post
theorem ax_Pq.sub {W : ax_W} {ρ ρ' : List Nat} {outs outs' : List ax_O} {Post : sx_O → Prop} (h : ax_Pq W ρ outs Post) (hs : ∀ o ∈ outs', o ∈ outs) (hp : ρ <+: ρ') : ax_Pq W ρ' outs' Post := fun ao ha r co hr q => h ao (hs ao ha) r co (hp.trans hr) q
theorem ax_Hq.mono {W : ax_W} {D mi cd : Nat} {ρ ρ' : List Nat} {lst : List ax_I} {Post : sx_O → Prop} (h : ax_Hq W D mi cd ρ lst Post) (hp : ρ <+: ρ') : ax_Hq W D mi cd ρ' lst Post := fun e he r L S M F Y n th cL cS hh cs ss hr => h e he r L S M F Y n th cL cS hh cs ss (hp.trans hr)
theorem ax_go {W : ax_W} {ih : ax_ih} {d D mi cd p th n cs ss : Nat} {lst : List ax_I} {L S cL cS : List Nat} {M : ax_M} {F : ax_F} {Y : ax_Y} {ρ ρ' : List Nat} {outs outs' : List ax_O} {hh : sx_H} {Post : sx_O → Prop} (hok : ax_Ok W ih) (hd : d ≤ D) (Pq : ax_Pq W ρ outs Post) (Hq : ax_Hq W D mi cd ρ lst Post)
    (h : ax_on ih d mi cd lst th p L S M F Y n = some outs') (hs : ∀ o ∈ outs', o ∈ outs) (hp : ρ <+: ρ') (X : ax_X W ρ' M F Y n th hh cs ss) (HL : ax_Ls ρ' L cL) (HS : ax_Ls ρ' S cS) : cx_G W D mi cd p cL cS hh cs ss Post := by
  unfold ax_on at h
  rw [sx_fo_eq] at h
  exact hok d mi cd lst false p L S M F Y n th outs' h D ρ' cL cS hh cs ss Post hd X HL HS (Pq.sub hs hp) (Hq.mono hp)
theorem ax_Ls.c {ρ : List Nat} {a : Nat} {S : List Nat} : ∀ {cS : List Nat}, ax_Ls ρ (a :: S) cS → ∃ v r, cS = v :: r ∧ ax_V ρ a v ∧ ax_Ls ρ S r
  | [], h => h.elim
  | v :: r, h => ⟨v, r, rfl, h.1, h.2⟩
theorem ax_p1_h {S : List Nat} {K : Nat → List Nat → ax_R} {outs : List ax_O} (h : ax_p1 S K = some outs) : ∃ a r, S = a :: r ∧ K a r = some outs := by
  cases S with
  | nil => cases h
  | cons a r => exact ⟨a, r, rfl, h⟩
end
section
/-! sx: each operation by its number -/
section CXB
variable {ih : sx_ih} {N w d mi cd : Nat} {lst : List sx_I} {pc : Nat} {L S : List Nat} {h : sx_H} {n : Nat} {sy : sx_Y} {cs ss : Nat}
theorem cx_b2 (hop : sx_op w = 2) : sx_body ih N w d mi cd lst pc L S h n sy cs ss = sx_oLoad ih w d mi cd lst pc L S h n sy cs ss := by unfold sx_body; rw [sx_fo_eq, hop]; rfl
theorem cx_b1 (hop : sx_op w = 1) : sx_body ih N w d mi cd lst pc L S h n sy cs ss = sx_oConst ih w d mi cd lst pc L S h n sy cs ss := by unfold sx_body; rw [sx_fo_eq, hop]; rfl
theorem cx_b9 (hop : sx_op w = 9) : sx_body ih N w d mi cd lst pc L S h n sy cs ss = sx_oGet ih w d mi cd lst pc L S h n sy cs ss := by unfold sx_body; rw [sx_fo_eq, hop]; rfl
theorem cx_b7 (hop : sx_op w = 7) : sx_body ih N w d mi cd lst pc L S h n sy cs ss = sx_oIcmp ih w d mi cd lst pc L S h n sy cs ss := by unfold sx_body; rw [sx_fo_eq, hop]; rfl
theorem cx_b6 (hop : sx_op w = 6) : sx_body ih N w d mi cd lst pc L S h n sy cs ss = sx_oIf ih w d mi cd lst pc L S h n sy cs ss := by unfold sx_body; rw [sx_fo_eq, hop]; rfl
theorem cx_b11 (hop : sx_op w = 11) : sx_body ih N w d mi cd lst pc L S h n sy cs ss = sx_oIald ih N d mi cd lst pc L S h n sy cs ss := by unfold sx_body; rw [sx_fo_eq, hop]; rfl
theorem cx_b8 (hop : sx_op w = 8) : sx_body ih N w d mi cd lst pc L S h n sy cs ss = sx_oGoto ih w d mi cd lst L S h n sy cs ss := by unfold sx_body; rw [sx_fo_eq, hop]; rfl
theorem cx_b5 (hop : sx_op w = 5) : sx_body ih N w d mi cd lst pc L S h n sy cs ss = sx_oIinc ih w d mi cd lst pc L S h n sy cs ss := by unfold sx_body; rw [sx_fo_eq, hop]; rfl
theorem cx_b3 (hop : sx_op w = 3) : sx_body ih N w d mi cd lst pc L S h n sy cs ss = sx_oStore ih w d mi cd lst pc L S h n sy cs ss := by unfold sx_body; rw [sx_fo_eq, hop]; rfl
theorem cx_b26 (hop : sx_op w = 26) : sx_body ih N w d mi cd lst pc L S h n sy cs ss = sx_oRet w S h n sy cs ss := by unfold sx_body; rw [sx_fo_eq, hop]; rfl
theorem cx_b21 (hop : sx_op w = 21) : sx_body ih N w d mi cd lst pc L S h n sy cs ss = sx_oInv ih w d mi cd lst pc L S h n sy cs ss true := by unfold sx_body; rw [sx_fo_eq, hop]; rfl
theorem cx_b4 (hop : sx_op w = 4) : sx_body ih N w d mi cd lst pc L S h n sy cs ss = sx_oBin ih w d mi cd lst pc L S h n sy cs ss := by unfold sx_body; rw [sx_fo_eq, hop]; rfl
theorem cx_b12 (hop : sx_op w = 12) : sx_body ih N w d mi cd lst pc L S h n sy cs ss = sx_oAst ih d mi cd lst pc L S h n sy cs ss 100 := by unfold sx_body; rw [sx_fo_eq, hop]; rfl
theorem cx_b22 (hop : sx_op w = 22) : sx_body ih N w d mi cd lst pc L S h n sy cs ss = sx_oInv ih w d mi cd lst pc L S h n sy cs ss false := by unfold sx_body; rw [sx_fo_eq, hop]; rfl
theorem cx_b27 (hop : sx_op w = 27) : sx_body ih N w d mi cd lst pc L S h n sy cs ss = sx_nil S (some [(0, 0, h, n, sy, cs, ss)]) := by unfold sx_body; rw [sx_fo_eq, hop]; rfl
theorem cx_b10 (hop : sx_op w = 10) : sx_body ih N w d mi cd lst pc L S h n sy cs ss = sx_oPut ih w d mi cd lst pc L S h n sy cs ss := by unfold sx_body; rw [sx_fo_eq, hop]; rfl
theorem cx_b29 (hop : sx_op w = 29) : sx_body ih N w d mi cd lst pc L S h n sy cs ss = sx_oDup ih d mi cd lst pc L S h n sy cs ss := by unfold sx_body; rw [sx_fo_eq, hop]; rfl
theorem cx_b30 (hop : sx_op w = 30) : sx_body ih N w d mi cd lst pc L S h n sy cs ss = sx_oDup2 ih d mi cd lst pc L S h n sy cs ss := by unfold sx_body; rw [sx_fo_eq, hop]; rfl
theorem cx_b31 (hop : sx_op w = 31) : sx_body ih N w d mi cd lst pc L S h n sy cs ss = sx_oPop ih d mi cd lst pc L S h n sy cs ss := by unfold sx_body; rw [sx_fo_eq, hop]; rfl
theorem cx_b13 (hop : sx_op w = 13) : sx_body ih N w d mi cd lst pc L S h n sy cs ss = sx_oAld ih N d mi cd lst pc L S h n sy cs ss 101 := by unfold sx_body; rw [sx_fo_eq, hop]; rfl
theorem cx_b14 (hop : sx_op w = 14) : sx_body ih N w d mi cd lst pc L S h n sy cs ss = sx_oAst ih d mi cd lst pc L S h n sy cs ss 101 := by unfold sx_body; rw [sx_fo_eq, hop]; rfl
theorem cx_b15 (hop : sx_op w = 15) : sx_body ih N w d mi cd lst pc L S h n sy cs ss = sx_oAld ih N d mi cd lst pc L S h n sy cs ss 102 := by unfold sx_body; rw [sx_fo_eq, hop]; rfl
theorem cx_b16 (hop : sx_op w = 16) : sx_body ih N w d mi cd lst pc L S h n sy cs ss = sx_oAst ih d mi cd lst pc L S h n sy cs ss 102 := by unfold sx_body; rw [sx_fo_eq, hop]; rfl
theorem cx_b17 (hop : sx_op w = 17) : sx_body ih N w d mi cd lst pc L S h n sy cs ss = sx_oAlenX ih N d mi cd lst pc L S h n sy cs ss := by unfold sx_body; rw [sx_fo_eq, hop]; rfl
theorem cx_b18 (hop : sx_op w = 18) : sx_body ih N w d mi cd lst pc L S h n sy cs ss = sx_oNew ih w d mi cd lst pc L S h n sy cs ss := by unfold sx_body; rw [sx_fo_eq, hop]; rfl
theorem cx_b19 (hop : sx_op w = 19) : sx_body ih N w d mi cd lst pc L S h n sy cs ss = sx_oNewa ih d mi cd lst pc L S h n sy cs ss (Nat.add 100 (sx_wa w)) 2 := by unfold sx_body; rw [sx_fo_eq, hop]; rfl
theorem cx_b20 (hop : sx_op w = 20) : sx_body ih N w d mi cd lst pc L S h n sy cs ss = sx_oNewa ih d mi cd lst pc L S h n sy cs ss 102 3 := by unfold sx_body; rw [sx_fo_eq, hop]; rfl
theorem cx_b23 (hop : sx_op w = 23) : sx_body ih N w d mi cd lst pc L S h n sy cs ss = sx_oInvI ih w d mi cd lst pc L S h n sy cs ss := by unfold sx_body; rw [sx_fo_eq, hop]; rfl
theorem cx_b24 (hop : sx_op w = 24) : sx_body ih N w d mi cd lst pc L S h n sy cs ss = sx_oObj ih d mi cd lst pc L S h n sy cs ss := by unfold sx_body; rw [sx_fo_eq, hop]; rfl
theorem cx_b25 (hop : sx_op w = 25) : sx_body ih N w d mi cd lst pc L S h n sy cs ss = sx_oCpy ih d mi cd lst pc L S h n sy cs ss := by unfold sx_body; rw [sx_fo_eq, hop]; rfl
theorem cx_b28 (hop : sx_op w = 28) : sx_body ih N w d mi cd lst pc L S h n sy cs ss = sx_oThrow w mi S h n sy cs ss := by unfold sx_body; rw [sx_fo_eq, hop]; rfl
theorem cx_b32 (hop : sx_op w = 32) : sx_body ih N w d mi cd lst pc L S h n sy cs ss = sx_oUn ih w d mi cd lst pc L S h n sy cs ss := by unfold sx_body; rw [sx_fo_eq, hop]; rfl
theorem cx_b35 (hop : sx_op w = 35) : sx_body ih N w d mi cd lst pc L S h n sy cs ss = sx_oLb ih w d mi cd lst pc L S h n sy cs ss := by unfold sx_body; rw [sx_fo_eq, hop]; rfl
theorem cx_b37 (hop : sx_op w = 37) : sx_body ih N w d mi cd lst pc L S h n sy cs ss = sx_oSw ih w d mi cd lst L S h n sy cs ss := by unfold sx_body; rw [sx_fo_eq, hop]; rfl
theorem cx_b39 (hop : sx_op w = 39) : sx_body ih N w d mi cd lst pc L S h n sy cs ss = sx_oInvX ih w d mi cd lst pc L S h n sy cs ss := by unfold sx_body; rw [sx_fo_eq, hop]; rfl
theorem cx_b38 (hop : sx_op w = 38) : sx_body ih N w d mi cd lst pc L S h n sy cs ss = sx_oSget ih w d mi cd lst pc L S h n sy cs ss := by unfold sx_body; rw [sx_fo_eq, hop]; rfl
theorem cx_b33 (hop : sx_op w = 33) : sx_body ih N w d mi cd lst pc L S h n sy cs ss = sx_oLdcS ih w d mi cd lst pc L S h n sy cs ss := by unfold sx_body; rw [sx_fo_eq, hop]; rfl
theorem cx_b34 (hop : sx_op w = 34) : sx_body ih N w d mi cd lst pc L S h n sy cs ss = sx_oGets ih w d mi cd lst pc L S h n sy cs ss := by unfold sx_body; rw [sx_fo_eq, hop]; rfl
theorem cx_b36 (hop : sx_op w = 36) : sx_body ih N w d mi cd lst pc L S h n sy cs ss = sx_oBald ih d mi cd lst pc L S h n sy cs ss := by unfold sx_body; rw [sx_fo_eq, hop]; rfl
theorem cx_b42 (hop : sx_op w = 42) : sx_body ih N w d mi cd lst pc L S h n sy cs ss = sx_oI2c ih d mi cd lst pc L S h n sy cs ss := by unfold sx_body; rw [sx_fo_eq, hop]; rfl
theorem cx_b43 (hop : sx_op w = 43) : sx_body ih N w d mi cd lst pc L S h n sy cs ss = sx_oRetN w S h n sy cs ss := by unfold sx_body; rw [sx_fo_eq, hop]; rfl
theorem cx_b40 (hop : sx_op w = 40) : sx_body ih N w d mi cd lst pc L S h n sy cs ss = sx_oInvW ih w d mi cd lst pc L S h n sy cs ss := by unfold sx_body; rw [sx_fo_eq, hop]; rfl
theorem cx_b41 (hop : sx_op w = 41) : sx_body ih N w d mi cd lst pc L S h n sy cs ss = sx_oLcon ih w d mi cd lst pc L S h n sy cs ss := by unfold sx_body; rw [sx_fo_eq, hop]; rfl
end CXB
/-! sx of numbers -/
section CXN
variable {sy : sx_Y} {P Q : Int32}
theorem ax_pl_i (P : Int32) : sx_pl (sx_i P) = P.toBitVec.toNat := Nat.mul_div_cancel_left _ (by decide)
theorem ax_tg_i (P : Int32) : sx_tg (sx_i P) = 0 := (sx_i_ok P).1
theorem ax_on_pl (P : Int32) : Int32.ofNat (sx_pl (sx_i P)) = P := (sx_i_ok P).2
theorem ax_bs_pl (P : Int32) : sx_bs (sx_pl (sx_i P)) = sx_b P := by
  rw [ax_pl_i, ax_bs_eq, ax_b_tn]
theorem cx_nm {K : Nat → sx_R} : sx_nm sy (sx_i P) K = K (sx_i P) := by
  unfold sx_nm
  rw [ax_tg_i, sx_beq_e (by decide), sx_if_f]
theorem cx_bk {o : Nat} {K : Nat → sx_R} (hq : 9 ≤ o → ¬ Q = 0) : sx_bk o (sx_pl (sx_i P)) (sx_pl (sx_i Q)) K = K (sx_i (sx_bf o P Q)) := by
  unfold sx_bk
  rw [ax_on_pl, ax_on_pl]
  cases c0 : Nat.beq o 0 with
  | true =>
    rw [sx_if_t, sx_fo_eq]
    have e := sx_beq c0
    subst e
    have e : Nat.mul 8 (Nat.mod (Nat.add (sx_pl (sx_i P)) (sx_pl (sx_i Q))) 4294967296) = sx_i (sx_bf 0 P Q) := by
      rw [ax_pl_i, ax_pl_i]
      show 8 * ((P.toBitVec.toNat + Q.toBitVec.toNat) % 4294967296) = 8 * (P + Q).toBitVec.toNat
      rw [Int32.toBitVec_add, BitVec.toNat_add]
    rw [e]
  | false =>
    rw [sx_if_f]
    cases c9 : Nat.ble 9 o with
    | false => rw [sx_if_f, sx_fo_eq]
    | true =>
      rw [sx_if_t]
      have hq := hq (sx_ble c9)
      rw [sx_beq_e (show ¬ Nat.mod (sx_pl (sx_i Q)) 4294967296 = 0 from fun q => by
        rw [ax_pl_i] at q
        have q : Q.toBitVec.toNat % 4294967296 = 0 := q
        have l := Q.toBitVec.isLt
        exact hq (Int32.toBitVec_inj.mp (BitVec.eq_of_toNat_eq (by show Q.toBitVec.toNat = 0; omega)))), sx_if_f, sx_fo_eq]
theorem cx_bin {o : Nat} {K : Nat → sx_Y → sx_R} (hq : 9 ≤ o → ¬ Q = 0) : sx_bin o (sx_i P) (sx_i Q) sy K = K (sx_i (sx_bf o P Q)) sy := by
  unfold sx_bin
  rw [cx_nm, cx_nm, ax_tg_i, ax_tg_i, sx_beq_t rfl, sx_if_t, sx_if_t, cx_bk hq]
theorem cx_bin2 {o : Nat} {K : Nat → sx_Y → sx_R} (hq : 9 ≤ o → ¬ Q = 0) : sx_bin2 o (sx_i P) (sx_i Q) sy K = K (sx_i (sx_bf o P Q)) sy := by
  unfold sx_bin2
  have e : sx_and (Nat.beq o 3) (sx_and (Nat.beq (sx_i Q) 504) (Nat.beq (sx_i P) 1)) = false := by
    rw [sx_beq_e (show ¬ sx_i P = 1 from fun q => by have := ax_i_t P; omega)]
    unfold sx_and
    cases Nat.beq o 3 <;> cases Nat.beq (sx_i Q) 504 <;> rfl
  rw [e, sx_if_f, cx_bin hq]
theorem cx_cb (c a b : Nat) : sx_cb c a b = ax_cb c a b := by
  unfold sx_cb ax_cb
  simp only [sx_if_eq, Nat.beq_eq]
  have e1 : Nat.beq a b = decide (a = b) := by
    by_cases h : a = b
    · rw [sx_beq_t h, decide_eq_true h]
    · rw [sx_beq_e h, decide_eq_false h]
  have e2 : ∀ x y : Nat, Nat.blt x y = decide (x < y) := fun x y => by
    by_cases h : x < y
    · rw [sx_blt_t h, decide_eq_true h]
    · rw [sx_blt_e h, decide_eq_false h]
  have e3 : ∀ x y : Nat, Nat.ble x y = !decide (y < x) := fun x y => by
    by_cases h : y < x
    · rw [sx_ble_e (by omega), decide_eq_true h]; rfl
    · rw [show Nat.ble x y = true from Nat.ble_eq.mpr (by omega), decide_eq_false h]; rfl
  rw [e1, e2, e2, e3, e3]
theorem cx_cmp {c : Nat} {K : Bool → sx_Y → sx_R} : sx_cmp c (sx_i P) (sx_i Q) sy K = K (ax_cb c (sx_b P) (sx_b Q)) sy := by
  unfold sx_cmp
  rw [cx_nm, cx_nm, ax_tg_i, ax_tg_i, sx_beq_t rfl, sx_if_t, sx_if_t, ax_bs_pl, ax_bs_pl, cx_cb]
theorem cx_ix {K : Nat → sx_Y → sx_R} : sx_ix (sx_i P) sy K = K P.toBitVec.toNat sy := by
  unfold sx_ix
  rw [cx_nm, ax_tg_i, sx_beq_t rfl, sx_if_t, ax_pl_i]
theorem cx_ii : sx_ii (sx_i P) (sx_i Q) = true := by unfold sx_ii; rw [ax_tg_i, ax_tg_i]; rfl
end CXN
end
section
/-! ax: the simple steps are right -/
def ax_Cx (W : ax_W) (ih : ax_ih) (d D mi cd : Nat) (lst : List ax_I) (pc w : Nat) (L S : List Nat) (M : ax_M) (F : ax_F) (Y : ax_Y) (n th : Nat) (ρ : List Nat) (outs : List ax_O) (hh : sx_H) (cs ss : Nat) (cL cS : List Nat) (Post : sx_O → Prop) : Prop := (ax_Wk W) ∧ (ax_Ok W ih) ∧ (d ≤ D) ∧ (ax_X W ρ M F Y n th hh cs ss) ∧ (ax_Ls ρ L cL) ∧ (ax_Ls ρ S cS) ∧ (ax_Pq W ρ outs Post) ∧ (ax_Hq W D mi cd ρ lst Post) ∧ (sx_ft cd pc = w) ∧ (sx_wh w = 0)
theorem ax_Cx.wk {W : ax_W} {ih : ax_ih} {d D mi cd : Nat} {lst : List ax_I} {pc w : Nat} {L S : List Nat} {M : ax_M} {F : ax_F} {Y : ax_Y} {n th : Nat} {ρ : List Nat} {outs : List ax_O} {hh : sx_H} {cs ss : Nat} {cL cS : List Nat} {Post : sx_O → Prop} (q : ax_Cx W ih d D mi cd lst pc w L S M F Y n th ρ outs hh cs ss cL cS Post) : ax_Wk W := q.1
theorem ax_Cx.ok {W : ax_W} {ih : ax_ih} {d D mi cd : Nat} {lst : List ax_I} {pc w : Nat} {L S : List Nat} {M : ax_M} {F : ax_F} {Y : ax_Y} {n th : Nat} {ρ : List Nat} {outs : List ax_O} {hh : sx_H} {cs ss : Nat} {cL cS : List Nat} {Post : sx_O → Prop} (q : ax_Cx W ih d D mi cd lst pc w L S M F Y n th ρ outs hh cs ss cL cS Post) : ax_Ok W ih := q.2.1
theorem ax_Cx.dd {W : ax_W} {ih : ax_ih} {d D mi cd : Nat} {lst : List ax_I} {pc w : Nat} {L S : List Nat} {M : ax_M} {F : ax_F} {Y : ax_Y} {n th : Nat} {ρ : List Nat} {outs : List ax_O} {hh : sx_H} {cs ss : Nat} {cL cS : List Nat} {Post : sx_O → Prop} (q : ax_Cx W ih d D mi cd lst pc w L S M F Y n th ρ outs hh cs ss cL cS Post) : d ≤ D := q.2.2.1
theorem ax_Cx.X {W : ax_W} {ih : ax_ih} {d D mi cd : Nat} {lst : List ax_I} {pc w : Nat} {L S : List Nat} {M : ax_M} {F : ax_F} {Y : ax_Y} {n th : Nat} {ρ : List Nat} {outs : List ax_O} {hh : sx_H} {cs ss : Nat} {cL cS : List Nat} {Post : sx_O → Prop} (q : ax_Cx W ih d D mi cd lst pc w L S M F Y n th ρ outs hh cs ss cL cS Post) : ax_X W ρ M F Y n th hh cs ss := q.2.2.2.1
theorem ax_Cx.HL {W : ax_W} {ih : ax_ih} {d D mi cd : Nat} {lst : List ax_I} {pc w : Nat} {L S : List Nat} {M : ax_M} {F : ax_F} {Y : ax_Y} {n th : Nat} {ρ : List Nat} {outs : List ax_O} {hh : sx_H} {cs ss : Nat} {cL cS : List Nat} {Post : sx_O → Prop} (q : ax_Cx W ih d D mi cd lst pc w L S M F Y n th ρ outs hh cs ss cL cS Post) : ax_Ls ρ L cL := q.2.2.2.2.1
theorem ax_Cx.HS {W : ax_W} {ih : ax_ih} {d D mi cd : Nat} {lst : List ax_I} {pc w : Nat} {L S : List Nat} {M : ax_M} {F : ax_F} {Y : ax_Y} {n th : Nat} {ρ : List Nat} {outs : List ax_O} {hh : sx_H} {cs ss : Nat} {cL cS : List Nat} {Post : sx_O → Prop} (q : ax_Cx W ih d D mi cd lst pc w L S M F Y n th ρ outs hh cs ss cL cS Post) : ax_Ls ρ S cS := q.2.2.2.2.2.1
theorem ax_Cx.Pq {W : ax_W} {ih : ax_ih} {d D mi cd : Nat} {lst : List ax_I} {pc w : Nat} {L S : List Nat} {M : ax_M} {F : ax_F} {Y : ax_Y} {n th : Nat} {ρ : List Nat} {outs : List ax_O} {hh : sx_H} {cs ss : Nat} {cL cS : List Nat} {Post : sx_O → Prop} (q : ax_Cx W ih d D mi cd lst pc w L S M F Y n th ρ outs hh cs ss cL cS Post) : ax_Pq W ρ outs Post := q.2.2.2.2.2.2.1
theorem ax_Cx.Hq {W : ax_W} {ih : ax_ih} {d D mi cd : Nat} {lst : List ax_I} {pc w : Nat} {L S : List Nat} {M : ax_M} {F : ax_F} {Y : ax_Y} {n th : Nat} {ρ : List Nat} {outs : List ax_O} {hh : sx_H} {cs ss : Nat} {cL cS : List Nat} {Post : sx_O → Prop} (q : ax_Cx W ih d D mi cd lst pc w L S M F Y n th ρ outs hh cs ss cL cS Post) : ax_Hq W D mi cd ρ lst Post := q.2.2.2.2.2.2.2.1
theorem ax_Cx.hw {W : ax_W} {ih : ax_ih} {d D mi cd : Nat} {lst : List ax_I} {pc w : Nat} {L S : List Nat} {M : ax_M} {F : ax_F} {Y : ax_Y} {n th : Nat} {ρ : List Nat} {outs : List ax_O} {hh : sx_H} {cs ss : Nat} {cL cS : List Nat} {Post : sx_O → Prop} (q : ax_Cx W ih d D mi cd lst pc w L S M F Y n th ρ outs hh cs ss cL cS Post) : sx_ft cd pc = w := q.2.2.2.2.2.2.2.2.1
theorem ax_Cx.wh {W : ax_W} {ih : ax_ih} {d D mi cd : Nat} {lst : List ax_I} {pc w : Nat} {L S : List Nat} {M : ax_M} {F : ax_F} {Y : ax_Y} {n th : Nat} {ρ : List Nat} {outs : List ax_O} {hh : sx_H} {cs ss : Nat} {cL cS : List Nat} {Post : sx_O → Prop} (q : ax_Cx W ih d D mi cd lst pc w L S M F Y n th ρ outs hh cs ss cL cS Post) : sx_wh w = 0 := q.2.2.2.2.2.2.2.2.2
section AXS
variable {W : ax_W} {ih : ax_ih} {g : ax_G} {d D mi cd : Nat} {lst : List ax_I} {pc w : Nat} {L S : List Nat} {M : ax_M} {F : ax_F} {Y : ax_Y} {n th : Nat} {ρ : List Nat} {outs : List ax_O} {hh : sx_H} {cs ss : Nat} {cL cS : List Nat} {Post : sx_O → Prop}
theorem ax_Cx.go (C : ax_Cx W ih d D mi cd lst pc w L S M F Y n th ρ outs hh cs ss cL cS Post) {p th' n' cs' ss' : Nat} {L' S' cL' cS' : List Nat} {M' : ax_M} {F' : ax_F} {Y' : ax_Y} {ρ' : List Nat} {outs' : List ax_O} {hh' : sx_H}
    (h : ax_on ih d mi cd lst th' p L' S' M' F' Y' n' = some outs') (hs : ∀ o ∈ outs', o ∈ outs) (hp : ρ <+: ρ') (X' : ax_X W ρ' M' F' Y' n' th' hh' cs' ss') (HL' : ax_Ls ρ' L' cL') (HS' : ax_Ls ρ' S' cS')
    (hb : ∀ ih, sx_body ih W.N w D mi cd [] pc cL cS hh 160 W.sy cs ss = ih D mi cd [] false p cL' cS' hh' 160 W.sy cs' ss') : cx_G W D mi cd pc cL cS hh cs ss Post :=
  cx_step C.hw C.wh (ax_go C.ok C.dd C.Pq C.Hq h hs hp X' HL' HS') hb
/-- nothing but places, locals and stack -/
theorem ax_Cx.go0 (C : ax_Cx W ih d D mi cd lst pc w L S M F Y n th ρ outs hh cs ss cL cS Post) {p : Nat} {L' S' cL' cS' : List Nat}
    (h : ax_on ih d mi cd lst th p L' S' M F Y n = some outs) (HL' : ax_Ls ρ L' cL') (HS' : ax_Ls ρ S' cS')
    (hb : ∀ ih, sx_body ih W.N w D mi cd [] pc cL cS hh 160 W.sy cs ss = ih D mi cd [] false p cL' cS' hh 160 W.sy cs ss) : cx_G W D mi cd pc cL cS hh cs ss Post :=
  C.go h (fun _ h => h) List.prefix_rfl C.X HL' HS' hb
theorem ax_pop {K : Nat → List Nat → ax_R} (h : ax_p1 S K = some outs) (HS : ax_Ls ρ S cS) : ∃ a r v cr, S = a :: r ∧ cS = v :: cr ∧ K a r = some outs ∧ ax_V ρ a v ∧ ax_Ls ρ r cr := by
  obtain ⟨a, r, rfl, h⟩ := ax_p1_h h
  obtain ⟨v, cr, rfl, hv, HS⟩ := HS.c
  exact ⟨a, r, v, cr, rfl, rfl, h, hv, HS⟩
theorem ax_ty_ok {t a v : Nat} (h : ax_V ρ a v) (c : ax_ty t a = true) : sx_ty t v = true := by
  unfold ax_ty at c
  unfold sx_ty
  cases h0 : Nat.beq t 0 with
  | true =>
    rw [h0, sx_if_t] at c
    rw [sx_if_t]
    obtain ⟨P, -, rfl⟩ := h.toInt (sx_ble c)
    rw [ax_tg_i]; rfl
  | false =>
    rw [h0, sx_if_f] at c
    rw [sx_if_f]
    cases h1 : Nat.beq t 1 with
    | true =>
      rw [h1, sx_if_t] at c
      rw [sx_if_t]
      have : a % 8 = 2 ∨ a % 8 = 5 := by
        rcases ax_or c with q | q
        · exact Or.inl (sx_beq q)
        · exact Or.inr (sx_beq q)
      obtain ⟨-, rfl⟩ := h.toRef (by omega) (by omega)
      exact c
    | false =>
      rw [h1, sx_if_f] at c
      rw [sx_if_f]
      exact sx_beq_t (h.lg c).1
theorem ax_wc_lt (cd pc : Nat) : sx_wc (sx_ft cd pc) < 2199023255552 := by
  have h : sx_ft cd pc < 1208925819614629174706176 := Nat.mod_lt _ (by decide)
  show sx_ft cd pc / 549755813888 < _
  omega
theorem ax_kc_ok {v : Nat} (hv : v < 4722366482869645213696) (h : ax_kc v = true) : ax_V ρ v v := by
  unfold ax_kc at h
  cases h0 : Nat.beq (sx_tg v) 0 with
  | true =>
    rw [h0, sx_if_t] at h
    have h0 : v % 8 = 0 := sx_beq h0
    have h : v < 34359738368 := sx_blt h
    have e : v = sx_i (Int32.ofNat (v / 8)) := by
      rw [ax_i_eq, ax_on_tn (by omega)]; omega
    rw [e]
    exact ax_V.int (ax_J.i _)
  | false =>
    rw [h0, sx_if_f] at h
    have h0 : ¬ v % 8 = 0 := sx_beq_f h0
    cases h2 : Nat.beq (sx_tg v) 2 with
    | true =>
      rw [h2, sx_if_t] at h
      have h2 : v % 8 = 2 := sx_beq h2
      have h : v / 8 < 160 := sx_blt h
      exact ax_V.ref ⟨by omega, by omega, hv, fun _ => h⟩
    | false =>
      rw [h2, sx_if_f] at h
      have h2 : ¬ v % 8 = 2 := sx_beq_f h2
      rcases ax_or h with q | q
      · have q := sx_beq q
        subst q
        exact Or.inr (Or.inr (Or.inr (Or.inl ⟨rfl, rfl⟩)))
      · obtain ⟨q1, q2⟩ := sx_and_ok q
        have q1 : 3 ≤ v % 8 := sx_ble q1
        have q2 : v % 8 ≤ 6 := sx_ble q2
        exact ax_V.ref ⟨by omega, q2, hv, fun q => by omega⟩
theorem ax_pv_ok {a : Nat} (HL : ax_Ls ρ L cL) (h : ax_pv L a = true) : sx_if (Nat.beq a 0) true (!Nat.beq (sx_tg (sx_ln cL (Nat.pred a))) 4) = true := by
  unfold ax_pv at h
  cases h0 : Nat.beq a 0 with
  | true => rfl
  | false =>
    rw [h0, sx_if_f] at h
    rw [sx_if_f]
    have := (HL.ln (Nat.pred a)).nl h
    rw [sx_beq_e (show ¬ sx_tg (sx_ln cL (Nat.pred a)) = 4 from this)]
    rfl
theorem ax_s1 (C : ax_Cx W ih d D mi cd lst pc w L S M F Y n th ρ outs hh cs ss cL cS Post) (hop : sx_op w = 1) (h : ax_oConst ih w d mi cd lst pc L S M F Y n th = some outs) : cx_G W D mi cd pc cL cS hh cs ss Post := by
  unfold ax_oConst at h
  rw [sx_fo_eq] at h
  obtain ⟨c, h⟩ := ax_if0 h
  have hl := ax_wc_lt cd pc
  rw [C.hw] at hl
  refine C.go0 h C.HL (ax_Ls.cons (ax_kc_ok (by omega) c) C.HS) (fun ih => ?_)
  rw [cx_b1 hop]; unfold sx_oConst; rw [sx_fo_eq, sx_fo_eq]
theorem ax_s34 (C : ax_Cx W ih d D mi cd lst pc w L S M F Y n th ρ outs hh cs ss cL cS Post) (hop : sx_op w = 34) (h : ax_oGets ih w d mi cd lst pc L S M F Y n th = some outs) : cx_G W D mi cd pc cL cS hh cs ss Post := by
  unfold ax_oGets at h
  rw [sx_fo_eq] at h
  obtain ⟨c, h⟩ := ax_if0 h
  have hl := ax_wc_lt cd pc
  rw [C.hw] at hl
  refine C.go0 h C.HL (ax_Ls.cons (ax_kc_ok (by omega) c) C.HS) (fun ih => ?_)
  rw [cx_b34 hop]; unfold sx_oGets; rw [sx_fo_eq, sx_fo_eq]
theorem ax_s2 (C : ax_Cx W ih d D mi cd lst pc w L S M F Y n th ρ outs hh cs ss cL cS Post) (hop : sx_op w = 2) (h : ax_oLoad ih w d mi cd lst pc L S M F Y n th = some outs) : cx_G W D mi cd pc cL cS hh cs ss Post := by
  unfold ax_oLoad at h
  rw [sx_fo_eq] at h
  obtain ⟨c, h⟩ := ax_if0 h
  have hv := C.HL.ln (sx_wa w)
  refine C.go0 h C.HL (ax_Ls.cons hv C.HS) (fun ih => ?_)
  rw [cx_b2 hop]; unfold sx_oLoad; rw [sx_fo_eq, ax_ty_ok hv c, sx_if_t, sx_fo_eq]
theorem ax_s3 (C : ax_Cx W ih d D mi cd lst pc w L S M F Y n th ρ outs hh cs ss cL cS Post) (hop : sx_op w = 3) (h : ax_oStore ih w d mi cd lst pc L S M F Y n th = some outs) : cx_G W D mi cd pc cL cS hh cs ss Post := by
  unfold ax_oStore at h
  obtain ⟨a, r, rfl, h⟩ := ax_p1_h h
  obtain ⟨v, cr, rfl, hv, HS⟩ := C.HS.c
  obtain ⟨c, h⟩ := ax_if0 h
  obtain ⟨c1, c2⟩ := sx_and_ok c
  have c2 := ax_pv_ok C.HL c2
  rcases ax_if h with ⟨c3, h⟩ | ⟨c3, h⟩
  · obtain ⟨c4, h⟩ := ax_if0 h
    rw [sx_stK_eq, sx_stK_eq] at h
    refine C.go0 h ((C.HL.set hv _).set ax_V.seven _) HS (fun ih => ?_)
    rw [cx_b3 hop]; unfold sx_oStore
    show sx_if _ _ _ = _
    rw [ax_ty_ok hv c1, sx_if_t, c2, sx_if_t, sx_fo_eq, c3, sx_if_t, C.HL.len, c4, sx_if_t, sx_stK_eq, sx_stK_eq]
  · obtain ⟨c4, h⟩ := ax_if0 h
    rw [sx_stK_eq] at h
    refine C.go0 h (C.HL.set hv _) HS (fun ih => ?_)
    rw [cx_b3 hop]; unfold sx_oStore
    show sx_if _ _ _ = _
    rw [ax_ty_ok hv c1, sx_if_t, c2, sx_if_t, sx_fo_eq, c3, sx_if_f, C.HL.len, c4, sx_if_t, sx_stK_eq]
theorem ax_ii_ok {x y a b : Nat} (hx : ax_V ρ x a) (hy : ax_V ρ y b) (h : ax_ii x y = true) : ∃ P Q, ax_J ρ x (sx_b P) ∧ ax_J ρ y (sx_b Q) ∧ a = sx_i P ∧ b = sx_i Q := by
  obtain ⟨h1, h2⟩ := sx_and_ok h
  obtain ⟨P, p1, p2⟩ := hx.toInt (sx_ble h1)
  obtain ⟨Q, q1, q2⟩ := hy.toInt (sx_ble h2)
  exact ⟨P, Q, p1, q1, p2, q2⟩
theorem ax_s4 (C : ax_Cx W ih d D mi cd lst pc w L S M F Y n th ρ outs hh cs ss cL cS Post) (hop : sx_op w = 4) (h : ax_oBin ih w d mi cd lst pc L S M F Y n th = some outs) : cx_G W D mi cd pc cL cS hh cs ss Post := by
  unfold ax_oBin at h
  obtain ⟨y, r1, vy, cr1, e1, f1, g1, hy, H1⟩ := ax_pop h C.HS
  obtain ⟨x, r2, vx, cr2, e2, f2, g2, hx, H2⟩ := ax_pop g1 H1
  subst e2 f2 e1 f1
  obtain ⟨c, h⟩ := ax_if0 g2
  obtain ⟨c1, c2⟩ := sx_and_ok c
  obtain ⟨P, Q, jx, jy, rfl, rfl⟩ := ax_ii_ok hx hy c2
  obtain ⟨⟨ρ', v, Y', n', o', h1, h2, h3, h4, h5⟩, hq⟩ := ax_bin_ok (sx_ble c1) h C.X.yk C.X.fk jx jy
  refine C.go h1 h2 h3 (C.X.mono h3 h4) (C.HL.mono' h3) (ax_Ls.cons (ax_V.int h5) (H2.mono' h3)) (fun ih => ?_)
  rw [cx_b4 hop]; unfold sx_oBin
  show sx_if _ _ _ = _
  rw [cx_ii, sx_if_t, cx_bin2 hq, sx_fo_eq]
theorem ax_s5 (C : ax_Cx W ih d D mi cd lst pc w L S M F Y n th ρ outs hh cs ss cL cS Post) (hop : sx_op w = 5) (h : ax_oIinc ih w d mi cd lst pc L S M F Y n th = some outs) : cx_G W D mi cd pc cL cS hh cs ss Post := by
  unfold ax_oIinc at h
  obtain ⟨c, h⟩ := ax_if0 h
  obtain ⟨c0, c⟩ := sx_and_ok c
  obtain ⟨c1, c2⟩ := sx_and_ok c
  have c0 : sx_wc w < 4294967296 := sx_blt c0
  rw [sx_fo_eq] at h
  obtain ⟨c3, h⟩ := ax_if0 h
  obtain ⟨P, jx, ex⟩ := (C.HL.ln (sx_wa w)).toInt (sx_ble c3)
  have ey : Nat.mul 8 (sx_wc w) = sx_i (Int32.ofNat (sx_wc w)) := by
    rw [ax_i_eq, ax_on_tn c0]; rfl
  rw [ey] at h
  obtain ⟨⟨ρ', v, Y', n', o', h1, h2, h3, h4, h5⟩, hq⟩ := ax_bin_ok (by omega) h C.X.yk C.X.fk jx (ax_J.i _)
  dsimp only at h1
  rw [sx_stK_eq] at h1
  refine C.go h1 h2 h3 (C.X.mono h3 h4) ((C.HL.mono' h3).set (ax_V.int h5) _) (C.HS.mono' h3) (fun ih => ?_)
  rw [cx_b5 hop]; unfold sx_oIinc
  rw [ax_pv_ok C.HL c1, sx_if_t, C.HL.len, c2, sx_if_t, sx_fo_eq, ex, ax_tg_i, show Nat.ble 0 1 = true from rfl, sx_if_t, ey, cx_bin hq, sx_stK_eq, sx_fo_eq]
theorem ax_s6 (C : ax_Cx W ih d D mi cd lst pc w L S M F Y n th ρ outs hh cs ss cL cS Post) (hop : sx_op w = 6) (h : ax_oIf ih w d mi cd lst pc L S M F Y n th = some outs) : cx_G W D mi cd pc cL cS hh cs ss Post := by
  unfold ax_oIf at h
  obtain ⟨x, r, rfl, h⟩ := ax_p1_h h
  obtain ⟨vx, cr, rfl, hx, HS⟩ := C.HS.c
  obtain ⟨c, h⟩ := ax_if0 h
  obtain ⟨P, jx, rfl⟩ := hx.toInt (sx_ble c)
  obtain ⟨F', Y', o', h1, h2, h3, h4⟩ := ax_cmp_ok h C.X.yk C.X.fk jx (show ax_J ρ 0 (sx_b 0) from ax_J.i 0)
  refine C.go h1 h2 List.prefix_rfl (C.X.yf h3 h4) C.HL HS (fun ih => ?_)
  rw [cx_b6 hop]; unfold sx_oIf
  show sx_if _ _ _ = _
  rw [ax_tg_i, show Nat.ble 0 1 = true from rfl, sx_if_t, show (0 : Nat) = sx_i 0 from rfl, cx_cmp, sx_fo_eq]
theorem ax_s7 (C : ax_Cx W ih d D mi cd lst pc w L S M F Y n th ρ outs hh cs ss cL cS Post) (hop : sx_op w = 7) (h : ax_oIcmp ih w d mi cd lst pc L S M F Y n th = some outs) : cx_G W D mi cd pc cL cS hh cs ss Post := by
  unfold ax_oIcmp at h
  obtain ⟨y, r1, vy, cr1, e1, f1, g1, hy, H1⟩ := ax_pop h C.HS
  obtain ⟨x, r2, vx, cr2, e2, f2, g2, hx, H2⟩ := ax_pop g1 H1
  subst e2 f2 e1 f1
  obtain ⟨c, h⟩ := ax_if0 g2
  obtain ⟨P, Q, jx, jy, rfl, rfl⟩ := ax_ii_ok hx hy c
  obtain ⟨F', Y', o', h1, h2, h3, h4⟩ := ax_cmp_ok h C.X.yk C.X.fk jx jy
  refine C.go h1 h2 List.prefix_rfl (C.X.yf h3 h4) C.HL H2 (fun ih => ?_)
  rw [cx_b7 hop]; unfold sx_oIcmp
  show sx_if _ _ _ = _
  rw [cx_ii, sx_if_t, cx_cmp, sx_fo_eq]
theorem ax_s8 (C : ax_Cx W ih d D mi cd lst pc w L S M F Y n th ρ outs hh cs ss cL cS Post) (hop : sx_op w = 8) (h : ax_oGoto ih w d mi cd lst L S M F Y n th = some outs) : cx_G W D mi cd pc cL cS hh cs ss Post := by
  unfold ax_oGoto at h
  refine C.go0 h C.HL C.HS (fun ih => ?_)
  rw [cx_b8 hop]; unfold sx_oGoto; rw [sx_fo_eq]
theorem ax_s29 (C : ax_Cx W ih d D mi cd lst pc w L S M F Y n th ρ outs hh cs ss cL cS Post) (hop : sx_op w = 29) (h : ax_oDup ih d mi cd lst pc L S M F Y n th = some outs) : cx_G W D mi cd pc cL cS hh cs ss Post := by
  unfold ax_oDup at h
  obtain ⟨x, r, rfl, h⟩ := ax_p1_h h
  obtain ⟨v, cr, rfl, hv, HS⟩ := C.HS.c
  obtain ⟨c, h⟩ := ax_if0 h
  refine C.go0 h C.HL (ax_Ls.cons hv (ax_Ls.cons hv HS)) (fun ih => ?_)
  rw [cx_b29 hop]; unfold sx_oDup
  show sx_if _ _ _ = _
  rw [sx_beq_e (show ¬ sx_tg v = 4 from hv.nl c), sx_if_f, sx_fo_eq]
theorem ax_s31 (C : ax_Cx W ih d D mi cd lst pc w L S M F Y n th ρ outs hh cs ss cL cS Post) (hop : sx_op w = 31) (h : ax_oPop ih d mi cd lst pc L S M F Y n th = some outs) : cx_G W D mi cd pc cL cS hh cs ss Post := by
  unfold ax_oPop at h
  obtain ⟨x, r, rfl, h⟩ := ax_p1_h h
  obtain ⟨v, cr, rfl, hv, HS⟩ := C.HS.c
  obtain ⟨c, h⟩ := ax_if0 h
  refine C.go0 h C.HL HS (fun ih => ?_)
  rw [cx_b31 hop]; unfold sx_oPop
  show sx_if _ _ _ = _
  rw [sx_beq_e (show ¬ sx_tg v = 4 from hv.nl c), sx_if_f, sx_fo_eq]
theorem cx_p1 {a : Nat} {r : List Nat} {K : Nat → List Nat → sx_R} : sx_p1 (a :: r) K = K a r := rfl
theorem ax_s30 (C : ax_Cx W ih d D mi cd lst pc w L S M F Y n th ρ outs hh cs ss cL cS Post) (hop : sx_op w = 30) (h : ax_oDup2 ih d mi cd lst pc L S M F Y n th = some outs) : cx_G W D mi cd pc cL cS hh cs ss Post := by
  unfold ax_oDup2 at h
  obtain ⟨x, r1, v, cr1, e1, f1, g1, hv, H1⟩ := ax_pop h C.HS
  subst e1 f1
  rcases ax_if g1 with ⟨c, h⟩ | ⟨c, h⟩
  · refine C.go0 h C.HL (ax_Ls.cons hv (ax_Ls.cons hv H1)) (fun ih => ?_)
    rw [cx_b30 hop]; unfold sx_oDup2
    rw [cx_p1, sx_fo_eq, sx_beq_t (show sx_tg v = 4 from (hv.lg c).1), sx_if_t]
  · obtain ⟨y, r2, u, cr2, e2, f2, g2, hu, H2⟩ := ax_pop h H1
    subst e2 f2
    obtain ⟨c, h⟩ := ax_if0 g2
    obtain ⟨c1, c2⟩ := sx_and_ok c
    refine C.go0 h C.HL (ax_Ls.cons hv (ax_Ls.cons hu (ax_Ls.cons hv (ax_Ls.cons hu H2)))) (fun ih => ?_)
    rw [cx_b30 hop]; unfold sx_oDup2
    rw [cx_p1, sx_fo_eq, sx_beq_e (show ¬ sx_tg v = 4 from hv.nl c1), sx_if_f, cx_p1, sx_beq_e (show ¬ sx_tg u = 4 from hu.nl c2), sx_if_f]
end AXS
end
section
/-! ax: more steps -/
theorem ax_mtK_eq (mi : Nat) (k : Nat → Nat → ax_R) : ax_mtK mi k = k (sx_mt mi).1 (sx_mt mi).2 := by
  unfold ax_mtK sx_mt
  rw [sx_if_eq]
  by_cases h : mi < 256
  · rw [sx_blt_t h, if_pos rfl, if_pos h, sx_rdK_eq]
  · rw [sx_blt_e h, if_neg (by decide), if_neg h, sx_rdK_eq]; rfl
theorem ax_rg_tag {Y : ax_Y} {n a : Nat} {K : Nat → Nat → ax_R} {outs : List ax_O} (h : ax_rg none Y n a K = some outs) : a % 8 ≤ 1 := by
  unfold ax_rg at h
  rcases ax_if h with ⟨c, h⟩ | ⟨-, h⟩
  · have : a % 8 = 0 := sx_beq c
    omega
  · obtain ⟨c, -⟩ := ax_if0 h
    have : a % 8 = 1 := sx_beq c
    omega
theorem ax_in_tag {Y : ax_Y} {n a lo hi : Nat} (h : ax_in Y n a lo hi = true) : a % 8 ≤ 1 := by
  unfold ax_in ax_rg at h
  cases c0 : Nat.beq (sx_tg a) 0 with
  | true => have : a % 8 = 0 := sx_beq c0; omega
  | false =>
    rw [c0, sx_if_f] at h
    cases c1 : Nat.beq (sx_tg a) 1 with
    | true => have : a % 8 = 1 := sx_beq c1; omega
    | false => rw [c1, sx_if_f] at h; cases h
theorem ax_in_ok {ρ : List Nat} {Y : ax_Y} {n a lo hi z : Nat} (h : ax_in Y n a lo hi = true) (hY : ax_Yk ρ Y n) (hJ : ax_J ρ a z) : lo ≤ z ∧ z ≤ hi := by
  unfold ax_in at h
  obtain ⟨l, u, g, h1, h2⟩ := ax_rg_ok (df := false) (K := fun l u => sx_and (Nat.ble lo l) (Nat.ble u hi)) hY hJ
  rw [g] at h
  obtain ⟨c1, c2⟩ := sx_and_ok h
  have c1 := sx_ble c1
  have c2 := sx_ble c2
  omega
theorem ax_nm_ne {α : Type} {Y : ax_Y} {n a : Nat} {K : Nat → α} (h : a % 8 ≠ 1) : ax_nm Y n a K = K a := by
  unfold ax_nm
  rw [sx_beq_e (show ¬ sx_tg a = 1 from h), sx_if_f]
/-- an int, or nothing known of it -/
theorem ax_nm_V {ρ : List Nat} {Y : ax_Y} {n a v : Nat} {K : Nat → ax_R} {outs : List ax_O} (h : ax_nm Y n a K = some outs) (hY : ax_Yk ρ Y n) (hv : ax_V ρ a v) : (a % 8 ≤ 1 ∧ ∃ P a', v = sx_i P ∧ ax_J ρ a' (sx_b P) ∧ K a' = some outs) ∨ (1 < a % 8 ∧ K a = some outs) := by
  by_cases t : a % 8 ≤ 1
  · obtain ⟨P, h1, h2⟩ := hv.toInt t
    obtain ⟨a', h3, h4⟩ := ax_nm_h h hY h1
    exact Or.inl ⟨t, P, a', h2, h4, h3⟩
  · rw [ax_nm_ne (by omega)] at h
    exact Or.inr ⟨by omega, h⟩
theorem cx_at (b : Bool) : sx_and true b = b := rfl
theorem ax_j_eq (z : Int64) : sx_j z = 8 * z.toBitVec.toNat + 4 := rfl
theorem ax_j_lt (z : Int64) : sx_j z < 4722366482869645213696 ∧ sx_j z % 8 = 4 ∧ sx_j z / 8 = z.toBitVec.toNat := by
  have := z.toBitVec.isLt
  rw [ax_j_eq]; omega
theorem ax_j_V {ρ : List Nat} (z : Int64) : ax_V ρ 23 (sx_j z) := Or.inr (Or.inr (Or.inr (Or.inr (Or.inl ⟨rfl, (ax_j_lt z).2.1, (ax_j_lt z).1⟩))))
theorem ax_j_R {ρ : List Nat} (z : Int64) : ax_V ρ (sx_j z) (sx_j z) := ax_V.ref ⟨by have := (ax_j_lt z).2.1; omega, by have := (ax_j_lt z).2.1; omega, (ax_j_lt z).1, fun q => by have := (ax_j_lt z).2.1; omega⟩
theorem ax_j_nz {P : Int32} (h : sx_b P ≠ 2147483648) : P.toInt64.toBitVec.toNat ≠ 0 := fun q => by
  apply h
  have e : P.toInt64 = 0 := Int64.toBitVec_inj.mp (BitVec.eq_of_toNat_eq (by rw [q]; rfl))
  have e2 : P.toInt = 0 := by rw [← Int32.toInt_toInt64, e]; rfl
  have := sx_b_int P
  omega
def ax_Gk (W : ax_W) (g : ax_G) : Prop := (g.1 = W.md) ∧ (g.2.2.2.2.2.1 = W.nv) ∧ (g.2.2.2.2.2.2.1 = W.lim)
theorem ax_Gk.md {W : ax_W} {g : ax_G} (q : ax_Gk W g) : g.1 = W.md := q.1
theorem ax_Gk.nv {W : ax_W} {g : ax_G} (q : ax_Gk W g) : g.2.2.2.2.2.1 = W.nv := q.2.1
theorem ax_Gk.lm {W : ax_W} {g : ax_G} (q : ax_Gk W g) : g.2.2.2.2.2.2.1 = W.lim := q.2.2
section AXS2
variable {W : ax_W} {ih : ax_ih} {g : ax_G} {d D mi cd : Nat} {lst : List ax_I} {pc w : Nat} {L S : List Nat} {M : ax_M} {F : ax_F} {Y : ax_Y} {n th : Nat} {ρ : List Nat} {outs : List ax_O} {hh : sx_H} {cs ss : Nat} {cL cS : List Nat} {Post : sx_O → Prop}
/-- a new value on the stack -/
theorem ax_Cx.got (C : ax_Cx W ih d D mi cd lst pc w L S M F Y n th ρ outs hh cs ss cL cS Post) {p : Nat} {r cr : List Nat} {P : Int32} (G : ax_Got ρ outs (fun v Y n => ax_on ih d mi cd lst th p L (v :: r) M F Y n) (sx_b P)) (H : ax_Ls ρ r cr)
    (hb : ∀ ih, sx_body ih W.N w D mi cd [] pc cL cS hh 160 W.sy cs ss = ih D mi cd [] false p cL (sx_i P :: cr) hh 160 W.sy cs ss) : cx_G W D mi cd pc cL cS hh cs ss Post := by
  obtain ⟨ρ', v, Y', n', o', h1, h2, h3, h4, h5⟩ := G
  exact C.go h1 h2 h3 (C.X.mono h3 h4) (C.HL.mono' h3) (ax_Ls.cons (ax_V.int h5) (H.mono' h3)) hb
theorem ax_s32 (C : ax_Cx W ih d D mi cd lst pc w L S M F Y n th ρ outs hh cs ss cL cS Post) (hop : sx_op w = 32) (h : ax_oUn ih w d mi cd lst pc L S M F Y n th = some outs) : cx_G W D mi cd pc cL cS hh cs ss Post := by
  unfold ax_oUn at h
  obtain ⟨a, r, v, cr, e1, f1, h1, hv, H⟩ := ax_pop h C.HS
  subst e1 f1
  rcases ax_if h1 with ⟨c, h2⟩ | ⟨c, h2⟩
  · obtain ⟨c2, h3⟩ := ax_if0 h2
    refine C.got (P := (Int64.ofNat (sx_pl v)).toInt32) (ax_Got.any h3 C.X.yk (sx_b_lt _)) H (fun ih => ?_)
    rw [cx_b32 hop]; unfold sx_oUn
    rw [cx_p1, sx_fo_eq, c, sx_if_t, sx_beq_t (show sx_tg v = 4 from (hv.lg c2).1), sx_if_t, sx_fo_eq]
  · obtain ⟨P, jx, rfl⟩ := hv.toInt (ax_rg_tag h2)
    obtain ⟨lo, hi, h3, b1, b2⟩ := ax_rg_h h2 C.X.yk jx
    rcases ax_if h3 with ⟨c0, h4⟩ | ⟨c0, h4⟩
    · have fin : ax_Got ρ outs (fun v Y n => ax_on ih d mi cd lst th (Nat.succ pc) L (v :: r) M F Y n) (sx_b (-P)) := by
        rcases ax_if h4 with ⟨-, h5⟩ | ⟨c4, h5⟩
        · exact ax_Got.any h5 C.X.yk (sx_b_lt _)
        · have c4 := sx_beq_f c4
          have e := ax_b_neg (P := P) (by omega)
          exact ax_fn_plain h5 C.X.yk (by show 4294967296 - hi ≤ _; omega) (by show _ ≤ 4294967296 - lo; omega) (sx_b_lt _)
      refine C.got fin H (fun ih => ?_)
      rw [cx_b32 hop]; unfold sx_oUn
      rw [cx_p1, sx_fo_eq, c, sx_if_f, cx_nm, ax_tg_i, sx_beq_t rfl, sx_if_t, c0, sx_if_t, ax_on_pl, sx_fo_eq]
    · have hb : ∀ ih, sx_body ih W.N w D mi cd [] pc cL (sx_i P :: cr) hh 160 W.sy cs ss = ih D mi cd [] false (Nat.succ pc) cL (sx_j P.toInt64 :: cr) hh 160 W.sy cs ss := fun ih => by
        rw [cx_b32 hop]; unfold sx_oUn
        rw [cx_p1, sx_fo_eq, c, sx_if_f, cx_nm, ax_tg_i, sx_beq_t rfl, sx_if_t, c0, sx_if_f, ax_on_pl, sx_fo_eq]
      rcases ax_if h4 with ⟨c4, h5⟩ | ⟨c4, h5⟩
      · have c4 := sx_beq c4
        rw [sx_fo_eq, show lo = sx_b P by omega, sx_b_back] at h5
        exact C.go0 h5 C.HL (ax_Ls.cons (ax_j_R _) H) hb
      · cases ck : sx_if (Nat.blt 2147483648 lo) true (Nat.blt hi 2147483648) with
        | false =>
          rw [ck, sx_if_f] at h5
          exact C.go0 h5 C.HL (ax_Ls.cons (ax_j_V _) H) hb
        | true =>
          rw [ck, sx_if_t] at h5
          have ne : sx_b P ≠ 2147483648 := by
            rcases ax_or ck with q | q
            · have q : 2147483648 < lo := sx_blt q
              omega
            · have q : hi < 2147483648 := sx_blt q
              omega
          have nz := ax_j_nz ne
          have l := P.toInt64.toBitVec.isLt
          obtain ⟨k1, k2, k3⟩ := ax_j_lt P.toInt64
          exact C.go0 h5 C.HL (ax_Ls.cons (Or.inr (Or.inr (Or.inr (Or.inr (Or.inr (Or.inl ⟨rfl, k2, k1, by rw [k3, Nat.mod_eq_of_lt l]; exact nz⟩)))))) H) hb
theorem ax_s35 (C : ax_Cx W ih d D mi cd lst pc w L S M F Y n th ρ outs hh cs ss cL cS Post) (hop : sx_op w = 35) (h : ax_oLb ih w d mi cd lst pc L S M F Y n th = some outs) : cx_G W D mi cd pc cL cS hh cs ss Post := by
  unfold ax_oLb at h
  obtain ⟨y, r1, vy, cr1, e1, f1, g1, hy, H1⟩ := ax_pop h C.HS
  obtain ⟨x, r2, vx, cr2, e2, f2, g2, hx, H2⟩ := ax_pop g1 H1
  subst e2 f2 e1 f1
  obtain ⟨c, h1⟩ := ax_if0 g2
  obtain ⟨c1, c⟩ := sx_and_ok c
  obtain ⟨c2, c3⟩ := sx_and_ok c
  have k1 := (hx.lg c1).1
  have k2 := (hy.lg c2).1
  have k3 : sx_if (Nat.beq (sx_wa w) 3) (!Nat.beq (Nat.mod (sx_pl vy) 18446744073709551616) 0) true = true := by
    cases q : Nat.beq (sx_wa w) 3 with
    | false => rfl
    | true =>
      rw [q, sx_if_t] at c3
      rw [sx_if_t]
      rcases ax_or c3 with q1 | q1
      · have q1 := sx_beq q1
        subst q1
        have nz : vy / 8 % 18446744073709551616 ≠ 0 := by
          rcases hy with ⟨h, -⟩ | ⟨⟨-, h, -⟩, -⟩ | ⟨h, -⟩ | ⟨h, -⟩ | ⟨h, -⟩ | ⟨-, -, -, h⟩ | h
          all_goals first | exact h | omega
        rw [sx_beq_e (show ¬ Nat.mod (sx_pl vy) 18446744073709551616 = 0 from nz)]
        rfl
      · obtain ⟨q1, q2⟩ := sx_and_ok q1
        have q1 : y % 8 = 4 := sx_beq q1
        obtain ⟨-, rfl⟩ := hy.toRef (by omega) (by omega)
        exact q2
  have hb : ∀ ih, sx_body ih W.N w D mi cd [] pc cL (vy :: vx :: cr2) hh 160 W.sy cs ss = ih D mi cd [] false (Nat.succ pc) cL (sx_lf (sx_wa w) (Int64.ofNat (sx_pl vx)) (Int64.ofNat (sx_pl vy)) :: cr2) hh 160 W.sy cs ss := fun ih => by
    rw [cx_b35 hop]; unfold sx_oLb
    rw [cx_p1, cx_p1, sx_beq_t (show sx_tg vx = 4 from k1), sx_beq_t (show sx_tg vy = 4 from k2), k3, cx_at, cx_at, sx_if_t, sx_fo_eq, sx_fo_eq]
  rcases ax_if h1 with ⟨c4, h2⟩ | ⟨c4, h2⟩
  · have c4 := sx_ble c4
    have e : ∃ z, sx_lf (sx_wa w) (Int64.ofNat (sx_pl vx)) (Int64.ofNat (sx_pl vy)) = sx_j z := by
      unfold sx_lf
      rcases (show sx_wa w = 0 ∨ sx_wa w = 1 ∨ sx_wa w = 2 ∨ sx_wa w = 3 by omega) with q | q | q | q <;> rw [q] <;> exact ⟨_, rfl⟩
    obtain ⟨z, e⟩ := e
    rw [e] at hb
    exact C.go0 h2 C.HL (ax_Ls.cons (ax_j_V _) H2) hb
  · have c4 := sx_ble_f c4
    have e : sx_lf (sx_wa w) (Int64.ofNat (sx_pl vx)) (Int64.ofNat (sx_pl vy)) = sx_i (lg_cmp (Int64.ofNat (sx_pl vx)) (Int64.ofNat (sx_pl vy))) := by
      unfold sx_lf
      rw [sx_beq_e (by omega), sx_if_f, sx_beq_e (by omega), sx_if_f, sx_beq_e (by omega), sx_if_f, sx_beq_e (by omega), sx_if_f]
    rw [e] at hb
    have bd : ∀ x y : Int64, 2147483647 ≤ sx_b (lg_cmp x y) ∧ sx_b (lg_cmp x y) ≤ 2147483649 := fun x y => by
      unfold lg_cmp
      split
      · decide
      · split <;> decide
    obtain ⟨v, h3, h4, h5⟩ := ax_fr_ok h2 C.X.yk (ax_En.plain (bd _ _).1 (bd _ _).2 (sx_b_lt _))
    exact C.got ⟨_, v, _, _, outs, h3, fun _ h => h, List.prefix_append _ _, h4, h5⟩ H2 hb
theorem ax_s42 (C : ax_Cx W ih d D mi cd lst pc w L S M F Y n th ρ outs hh cs ss cL cS Post) (hop : sx_op w = 42) (h : ax_oI2c ih d mi cd lst pc L S M F Y n th = some outs) : cx_G W D mi cd pc cL cS hh cs ss Post := by
  unfold ax_oI2c at h
  obtain ⟨a, r, v, cr, e1, f1, h1, hv, H⟩ := ax_pop h C.HS
  subst e1 f1
  rcases ax_nm_V h1 C.X.yk hv with ⟨-, P, a', rfl, j, h2⟩ | ⟨t, h2⟩
  · obtain ⟨c, h3⟩ := ax_if0 h2
    have b := ax_in_ok c C.X.yk j
    obtain ⟨p, hp1, -, hp⟩ := ax_b_pos (P := P) b.1
    refine C.go0 h3 C.HL (ax_Ls.cons (ax_V.int j) H) (fun ih => ?_)
    rw [cx_b42 hop]; unfold sx_oI2c
    rw [cx_p1, cx_nm, ax_tg_i, ax_pl_i, hp1, sx_blt_t (show p < 65536 by omega), sx_beq_t rfl, cx_at, sx_if_t, sx_fo_eq]
  · obtain ⟨c, -⟩ := ax_if0 h2
    have := ax_in_tag c
    omega
theorem ax_s38 (C : ax_Cx W ih d D mi cd lst pc w L S M F Y n th ρ outs hh cs ss cL cS Post) (hop : sx_op w = 38) (h : ax_oSget ih w d mi cd lst pc L S M F Y n th = some outs) : cx_G W D mi cd pc cL cS hh cs ss Post := by
  unfold ax_oSget at h
  obtain ⟨a, r, v, cr, e1, f1, h1, hv, H⟩ := ax_pop h C.HS
  subst e1 f1
  obtain ⟨c, h2⟩ := ax_if0 h1
  obtain ⟨c1, c2⟩ := sx_and_ok c
  obtain ⟨c2, c3⟩ := sx_and_ok c2
  have c1 : a % 8 = 5 := sx_beq c1
  have c3 : a / 8 < 2 + sx_ns := sx_blt c3
  obtain ⟨k, rfl⟩ := hv.toRef (by omega) (by omega)
  rcases ax_if h2 with ⟨c4, h3⟩ | ⟨c4, h3⟩
  · refine C.go0 h3 C.HL (ax_Ls.cons (show ax_V ρ 0 0 from ax_V.int (ax_J.i 0)) H) (fun ih => ?_)
    rw [cx_b38 hop]; unfold sx_oSget
    rw [cx_p1, c, sx_if_t, sx_fo_eq, c4, sx_if_t]
  · rw [sx_fo_eq] at h3
    have e : Nat.add (Nat.mul 8 (Nat.add (sx_pl v) sx_ns)) 5 = 8 * (v / 8 + 71) + 5 := rfl
    refine C.go0 h3 C.HL (ax_Ls.cons (ax_V.ref ?_) H) (fun ih => ?_)
    · rw [e]
      have c3 : v / 8 < 2 + 71 := c3
      exact ⟨by omega, by omega, by omega, fun q => by omega⟩
    · rw [cx_b38 hop]; unfold sx_oSget
      rw [cx_p1, c, sx_if_t, sx_fo_eq, c4, sx_if_f, sx_fo_eq]
theorem ax_s33 (C : ax_Cx W ih d D mi cd lst pc w L S M F Y n th ρ outs hh cs ss cL cS Post) (hop : sx_op w = 33) (h : ax_oLdcS ih w d mi cd lst pc L S M F Y n th = some outs) : cx_G W D mi cd pc cL cS hh cs ss Post := by
  unfold ax_oLdcS at h
  obtain ⟨c, h1⟩ := ax_if0 h
  rw [sx_fo_eq] at h1
  have c' : sx_wa w < 71 := sx_blt c
  have e : Nat.add (Nat.mul 8 (Nat.add 2 (sx_wa w))) 5 = 8 * (2 + sx_wa w) + 5 := rfl
  refine C.go0 h1 C.HL (ax_Ls.cons (ax_V.ref ?_) C.HS) (fun ih => ?_)
  · rw [e]
    exact ⟨by omega, by omega, by omega, fun q => by omega⟩
  · rw [cx_b33 hop]; unfold sx_oLdcS
    rw [c, sx_if_t, sx_fo_eq, sx_fo_eq]
theorem ax_opt_h {α : Type} {o : Option α} {f : α → ax_R} {outs : List ax_O} (h : (Option.rec none f o : ax_R) = some outs) : ∃ x, o = some x ∧ f x = some outs := by
  cases o with
  | none => cases h
  | some x => exact ⟨x, rfl, h⟩
theorem ax_s41 (C : ax_Cx W ih d D mi cd lst pc w L S M F Y n th ρ outs hh cs ss cL cS Post) (hop : sx_op w = 41) (h : ax_oLcon ih w d mi cd lst pc L S M F Y n th = some outs) : cx_G W D mi cd pc cL cS hh cs ss Post := by
  unfold ax_oLcon at h
  obtain ⟨t, ht, h1⟩ := ax_opt_h h
  rw [sx_fo_eq] at h1
  refine C.go0 h1 C.HL (ax_Ls.cons (ax_j_R _) C.HS) (fun ih => ?_)
  rw [cx_b41 hop]; unfold sx_oLcon
  rw [ht]
  show sx_fo _ _ = _
  rw [sx_fo_eq, sx_fo_eq]
theorem ax_nil_h {r : List Nat} {o : ax_R} {outs : List ax_O} (h : (List.rec o (fun _ _ _ => none) r : ax_R) = some outs) : r = [] ∧ o = some outs := by
  cases r with
  | nil => exact ⟨rfl, h⟩
  | cons a t => cases h
theorem ax_Ls.nl : ∀ {c : List Nat}, ax_Ls ρ [] c → c = []
  | [], _ => rfl
  | _ :: _, h => h.elim
theorem ax_s26 (C : ax_Cx W ih d D mi cd lst pc w L S M F Y n th ρ outs hh cs ss cL cS Post) (hop : sx_op w = 26) (h : ax_oRet w S M F Y n th = some outs) : cx_G W D mi cd pc cL cS hh cs ss Post := by
  unfold ax_oRet at h
  obtain ⟨a, r, v, cr, e1, f1, h1, hv, H⟩ := ax_pop h C.HS
  subst e1 f1
  obtain ⟨c, h2⟩ := ax_if0 h1
  obtain ⟨rfl, h3⟩ := ax_nil_h h2
  have := H.nl
  subst this
  cases h3
  refine cx_end C.hw C.wh (o := (1, v, hh, 160, W.sy, cs, ss)) (C.Pq _ List.mem_cons_self ρ _ List.prefix_rfl ⟨rfl, fun _ => hv, rfl, rfl, C.X⟩) (fun ih => ?_)
  rw [cx_b26 hop]; unfold sx_oRet
  rw [cx_p1]
  have e : sx_if (Nat.beq (sx_wa w) 0) (Nat.ble (sx_tg v) 1) (sx_if (Nat.beq (sx_wa w) 1) (sx_and (Nat.beq (sx_tg v) 0) (Nat.ble (sx_pl v) 1)) (Nat.beq (sx_tg v) 4)) = true := by
    cases c0 : Nat.beq (sx_wa w) 0 with
    | true =>
      rw [c0, sx_if_t] at c
      obtain ⟨P, -, rfl⟩ := hv.toInt (sx_ble c)
      rw [sx_if_t, ax_tg_i]; rfl
    | false =>
      rw [c0, sx_if_f] at c
      rw [sx_if_f]
      cases c1 : Nat.beq (sx_wa w) 1 with
      | true =>
        rw [c1, sx_if_t] at c
        obtain ⟨P, j, rfl⟩ := hv.toInt (ax_in_tag c)
        have b := ax_in_ok c C.X.yk j
        obtain ⟨p, hp1, -, hp⟩ := ax_b_pos (P := P) b.1
        rw [sx_if_t, ax_tg_i, ax_pl_i, hp1, show Nat.ble p 1 = true from Nat.ble_eq.mpr (by omega)]; rfl
      | false =>
        rw [c1, sx_if_f] at c
        rw [sx_if_f]
        exact sx_beq_t (hv.lg c).1
  rw [e, sx_if_t]; rfl
theorem ax_s43 (C : ax_Cx W ih d D mi cd lst pc w L S M F Y n th ρ outs hh cs ss cL cS Post) (hop : sx_op w = 43) (h : ax_oRetN w S M F Y n th = some outs) : cx_G W D mi cd pc cL cS hh cs ss Post := by
  unfold ax_oRetN at h
  obtain ⟨a, r, v, cr, e1, f1, h1, hv, H⟩ := ax_pop h C.HS
  subst e1 f1
  obtain ⟨c, h2⟩ := ax_if0 h1
  obtain ⟨rfl, h3⟩ := ax_nil_h h2
  have := H.nl
  subst this
  cases h3
  refine cx_end C.hw C.wh (o := (1, v, hh, 160, W.sy, cs, ss)) (C.Pq _ List.mem_cons_self ρ _ List.prefix_rfl ⟨rfl, fun _ => hv, rfl, rfl, C.X⟩) (fun ih => ?_)
  rw [cx_b43 hop]; unfold sx_oRetN
  rw [cx_p1]
  have e : sx_and (Nat.beq (sx_tg v) 0) (Nat.blt (sx_pl v) (sx_if (Nat.beq (sx_wa w) 0) 128 65536)) = true := by
    obtain ⟨P, j, rfl⟩ := hv.toInt (ax_in_tag c)
    have b := ax_in_ok c C.X.yk j
    obtain ⟨p, hp1, -, hp⟩ := ax_b_pos (P := P) b.1
    have b2 : sx_b P ≤ 2147483648 + sx_if (Nat.beq (sx_wa w) 0) 127 65535 := b.2
    rw [ax_tg_i, ax_pl_i, hp1]
    cases c0 : Nat.beq (sx_wa w) 0 with
    | true =>
      rw [c0, sx_if_t] at b2
      rw [sx_if_t, sx_blt_t (show p < 128 by omega)]; rfl
    | false =>
      rw [c0, sx_if_f] at b2
      rw [sx_if_f, sx_blt_t (show p < 65536 by omega)]; rfl
  rw [e, sx_if_t]; rfl
theorem ax_s27 (C : ax_Cx W ih d D mi cd lst pc w L S M F Y n th ρ outs hh cs ss cL cS Post) (hop : sx_op w = 27) (h : ax_oVret S M F Y n th = some outs) : cx_G W D mi cd pc cL cS hh cs ss Post := by
  obtain ⟨rfl, h3⟩ := ax_nil_h h
  have := C.HS.nl
  subst this
  cases h3
  refine cx_end C.hw C.wh (o := (0, 0, hh, 160, W.sy, cs, ss)) (C.Pq _ List.mem_cons_self ρ _ List.prefix_rfl ⟨rfl, (fun q => by cases q), rfl, rfl, C.X⟩) (fun ih => ?_)
  rw [cx_b27 hop]; rfl
theorem ax_s28 (hG : ax_Gk W g) (C : ax_Cx W ih d D mi cd lst pc w L S M F Y n th ρ outs hh cs ss cL cS Post) (hop : sx_op w = 28) (h : ax_oThrow g w mi S M F Y n th = some outs) : cx_G W D mi cd pc cL cS hh cs ss Post := by
  unfold ax_oThrow at h
  rw [ax_mtK_eq] at h
  obtain ⟨c, h1⟩ := ax_if0 h
  obtain ⟨c1, c2⟩ := sx_and_ok c
  obtain ⟨c2, c3⟩ := sx_and_ok c2
  have c3 : th < W.lim := by rw [← hG.lm]; exact sx_blt c3
  have rm1 := C.wk.rm1
  have rm2 := C.wk.rm2
  have r1 := C.X.r1
  have r2 := C.X.r2
  rw [sx_fo_eq] at h1
  cases h1
  refine cx_end C.hw C.wh (o := (Nat.add 2 (Nat.mod (sx_wb w) 16), 0, hh, 160, W.sy, cs + 1, ss + 6)) (C.Pq _ List.mem_cons_self ρ _ List.prefix_rfl ⟨rfl, fun q => ?_, rfl, rfl, ?_⟩) (fun ih => ?_)
  · have q : 2 + sx_wb w % 16 = 1 := q
    omega
  · exact ⟨C.X.yk, C.X.fk, C.X.mm, C.X.hs, C.X.fr, C.X.nv, by show cs + 1 ≤ W.cb + (th + 1); omega, by show ss + 6 ≤ W.sb + 6 * (th + 1); omega, by show cs + 1 ≤ _; omega, by show ss + 6 ≤ _; omega⟩
  · rw [cx_b28 hop]; unfold sx_oThrow
    rw [sx_mtK_eq, c1, show Nat.ble (List.length cS) 40 = true by rw [C.HS.len]; exact c2, sx_blt_t (show cs < 600002 by omega), show Nat.ble (Nat.add ss 6) 7302232 = true from Nat.ble_eq.mpr (by show ss + 6 ≤ _; omega), cx_at, cx_at, cx_at, sx_if_t, sx_fo_eq, sx_fo_eq]
theorem ax_s36 (C : ax_Cx W ih d D mi cd lst pc w L S M F Y n th ρ outs hh cs ss cL cS Post) (hop : sx_op w = 36) (h : ax_oBald ih d mi cd lst pc L S M F Y n th = some outs) : cx_G W D mi cd pc cL cS hh cs ss Post := by
  unfold ax_oBald at h
  obtain ⟨i, r1, vi, cr1, e1, f1, g1, hi, H1⟩ := ax_pop h C.HS
  obtain ⟨a, r2, va, cr2, e2, f2, g2, ha, H2⟩ := ax_pop g1 H1
  subst e2 f2 e1 f1
  obtain ⟨c, h1⟩ := ax_if0 g2
  obtain ⟨t, ht, h2⟩ := ax_opt_h h1
  obtain ⟨ca, -⟩ := sx_and_ok c
  have ca : a % 8 = 5 := sx_beq ca
  obtain ⟨-, rfl⟩ := ha.toRef (by omega) (by omega)
  rcases ax_nm_V h2 C.X.yk hi with ⟨-, P, i', rfl, j, h3⟩ | ⟨t, h3⟩
  · obtain ⟨c0, h4⟩ := ax_if0 h3
    have c0 : i' % 8 = 0 := sx_beq c0
    obtain ⟨z, hz, h5⟩ := ax_opt_h h4
    obtain ⟨c5, h6⟩ := ax_if0 h5
    have c5 : z < 4294967296 := sx_blt c5
    rw [sx_fo_eq] at h6
    have e := (j.i0 c0).1
    subst e
    rw [ax_pl_i] at hz
    have ez : Nat.mul 8 z = sx_i (Int32.ofNat z) := by rw [ax_i_eq, ax_on_tn c5]; rfl
    rw [ez] at h6
    refine C.go0 h6 C.HL (ax_Ls.cons (ax_V.int (ax_J.i _)) H2) (fun ih => ?_)
    rw [cx_b36 hop]; unfold sx_oBald
    rw [cx_p1, cx_p1, c, sx_if_t, ht]
    show sx_ix _ _ _ = _
    rw [cx_ix, hz]
    show sx_fo _ _ = _
    rw [sx_fo_eq, sx_fo_eq, ez]
  · obtain ⟨c0, -⟩ := ax_if0 h3
    have c0 : i % 8 = 0 := sx_beq c0
    omega
end AXS2
end
section
/-! ax: places of cells -/
theorem ax_cl_mod (c : Nat) : ax_cl c = ax_cl (c % 256) := by
  unfold ax_cl
  rw [show c % 256 / 64 % 4 = c / 64 % 4 by omega, show c % 256 / 16 % 4 = c / 16 % 4 by omega, show c % 256 / 4 % 4 = c / 4 % 4 by omega, show c % 256 % 4 = c % 4 by omega]
/-- what the table keeps to -/
def ax_tk1 (c : ax_C0) : Bool := (c.1 % 256 != 100 || c.2.2.all (fun s => s.2.1 == 0 || s.2.1 == 4)) && (c.1 % 256 != 101 || c.2.2.all (fun s => s.2.1 == 3)) && (c.2.1 != 364 || c.2.2 == (ax_cl 152).2.2) && (c.2.1 != 764 || c.2.2 == (ax_cl 149).2.2)
theorem ax_tk1_ok : (List.range 256).all (fun c => ax_tk1 (ax_cl c)) = true := by decide +kernel
theorem ax_tk2_ok : (ax_cl 152).2.1 = 364 ∧ (ax_cl 149).2.1 = 764 := by decide +kernel
theorem ax_tk3_ok : (List.range 364).all (fun i => decide ((ax_sg (ax_cl 152).2.2 i i).map (fun s => s.2) = (ax_sg (ax_cl 149).2.2 i i).map (fun s => s.2))) = true := by decide +kernel
theorem ax_tk1_at (c : Nat) : ax_tk1 (ax_cl c) = true := by
  have h := List.all_eq_true.mp ax_tk1_ok (c % 256) (List.mem_range.mpr (Nat.mod_lt _ (by decide)))
  rw [ax_cl_mod]
  exact h
theorem ax_sg_cons (s : ax_S) (l : List ax_S) (lo hi : Nat) : ax_sg (s :: l) lo hi = sx_if (Nat.blt lo s.1) (sx_if (Nat.blt hi s.1) (some s) none) (ax_sg l lo hi) := rfl
theorem ax_sg_in {lo hi j : Nat} {s : ax_S} (h1 : lo ≤ j) (h2 : j ≤ hi) : ∀ {l : List ax_S}, ax_sg l lo hi = some s → ax_sg l j j = some s
  | [], h => by cases h
  | t :: l, h => by
    rw [ax_sg_cons] at h ⊢
    cases c : Nat.blt lo t.1 with
    | true =>
      rw [c, sx_if_t] at h
      cases c2 : Nat.blt hi t.1 with
      | true =>
        rw [c2, sx_if_t] at h
        have c2 : hi < t.1 := sx_blt c2
        rw [sx_blt_t (show j < t.1 by omega), sx_if_t, sx_if_t]
        exact h
      | false => rw [c2, sx_if_f] at h; cases h
    | false =>
      rw [c, sx_if_f] at h
      have c : ¬ lo < t.1 := fun q => by rw [sx_blt_t q] at c; cases c
      rw [sx_blt_e (show ¬ j < t.1 by omega), sx_if_f]
      exact ax_sg_in h1 h2 h
theorem ax_sg_mem {lo hi : Nat} {s : ax_S} : ∀ {l : List ax_S}, ax_sg l lo hi = some s → s ∈ l
  | [], h => by cases h
  | t :: l, h => by
    rw [ax_sg_cons] at h
    cases c : Nat.blt lo t.1 with
    | true =>
      rw [c, sx_if_t] at h
      cases c2 : Nat.blt hi t.1 with
      | true => rw [c2, sx_if_t] at h; cases h; exact List.mem_cons_self
      | false => rw [c2, sx_if_f] at h; cases h
    | false => rw [c, sx_if_f] at h; exact List.mem_cons_of_mem _ (ax_sg_mem h)
theorem ax_sj_cons (s : ax_S) (l : List ax_S) (lo hi fr a b : Nat) : ax_sj (s :: l) lo hi fr a b = sx_if (Nat.ble s.1 lo) (ax_sj l lo hi s.1 a b) (sx_if (Nat.ble fr hi) (sx_if (Nat.beq s.2.1 0) (sx_fo (sx_mn a s.2.2.1) (fun a => sx_fo (sx_mx b s.2.2.2.1) (fun b => ax_sj l lo hi s.1 a b))) none) (some (a, b))) := rfl
theorem ax_sm_cons (s : ax_S) (l : List ax_S) (lo hi fr a b : Nat) : ax_sm (s :: l) lo hi fr a b = sx_if (Nat.ble s.1 lo) (ax_sm l lo hi s.1 a b) (sx_if (Nat.ble fr hi) (sx_if (Nat.beq s.2.1 0) (sx_fo (sx_mx a s.2.2.1) (fun a => sx_fo (sx_mn b s.2.2.2.1) (fun b => ax_sm l lo hi s.1 a b))) none) (some (a, b))) := rfl
theorem ax_sj_mono {lo hi : Nat} {q : Nat × Nat} : ∀ {l : List ax_S} {fr a b : Nat}, ax_sj l lo hi fr a b = some q → q.1 ≤ a ∧ b ≤ q.2
  | [], fr, a, b, h => by cases h; exact ⟨Nat.le_refl _, Nat.le_refl _⟩
  | t :: l, fr, a, b, h => by
    rw [ax_sj_cons] at h
    cases c : Nat.ble t.1 lo with
    | true => rw [c, sx_if_t] at h; exact ax_sj_mono h
    | false =>
      rw [c, sx_if_f] at h
      cases c2 : Nat.ble fr hi with
      | true =>
        rw [c2, sx_if_t] at h
        cases c3 : Nat.beq t.2.1 0 with
        | true =>
          rw [c3, sx_if_t, sx_fo_eq, sx_fo_eq, sx_mn_eq, sx_mx_eq] at h
          have := ax_sj_mono h
          omega
        | false => rw [c3, sx_if_f] at h; cases h
      | false => rw [c2, sx_if_f] at h; cases h; exact ⟨Nat.le_refl _, Nat.le_refl _⟩
theorem ax_sj_ok {lo hi j : Nat} {q : Nat × Nat} {s : ax_S} (h1 : lo ≤ j) (h2 : j ≤ hi) : ∀ {l : List ax_S} {fr a b : Nat}, fr ≤ j → ax_sj l lo hi fr a b = some q → ax_sg l j j = some s → s.2.1 = 0 ∧ q.1 ≤ s.2.2.1 ∧ s.2.2.2.1 ≤ q.2
  | [], fr, a, b, _, _, hg => by cases hg
  | t :: l, fr, a, b, hf, h, hg => by
    rw [ax_sj_cons] at h
    rw [ax_sg_cons] at hg
    cases c : Nat.ble t.1 lo with
    | true =>
      rw [c, sx_if_t] at h
      have c := sx_ble c
      rw [sx_blt_e (show ¬ j < t.1 by omega), sx_if_f] at hg
      exact ax_sj_ok h1 h2 (by omega) h hg
    | false =>
      rw [c, sx_if_f, show Nat.ble fr hi = true from Nat.ble_eq.mpr (by omega), sx_if_t] at h
      cases c3 : Nat.beq t.2.1 0 with
      | false => rw [c3, sx_if_f] at h; cases h
      | true =>
        rw [c3, sx_if_t, sx_fo_eq, sx_fo_eq, sx_mn_eq, sx_mx_eq] at h
        by_cases hj : j < t.1
        · rw [sx_blt_t hj, sx_if_t, sx_if_t] at hg
          cases hg
          have := ax_sj_mono h
          exact ⟨sx_beq c3, by omega, by omega⟩
        · rw [sx_blt_e hj, sx_if_f] at hg
          exact ax_sj_ok h1 h2 (by omega) h hg
theorem ax_sm_mono {lo hi : Nat} {q : Nat × Nat} : ∀ {l : List ax_S} {fr a b : Nat}, ax_sm l lo hi fr a b = some q → a ≤ q.1 ∧ q.2 ≤ b
  | [], fr, a, b, h => by cases h; exact ⟨Nat.le_refl _, Nat.le_refl _⟩
  | t :: l, fr, a, b, h => by
    rw [ax_sm_cons] at h
    cases c : Nat.ble t.1 lo with
    | true => rw [c, sx_if_t] at h; exact ax_sm_mono h
    | false =>
      rw [c, sx_if_f] at h
      cases c2 : Nat.ble fr hi with
      | true =>
        rw [c2, sx_if_t] at h
        cases c3 : Nat.beq t.2.1 0 with
        | true =>
          rw [c3, sx_if_t, sx_fo_eq, sx_fo_eq, sx_mn_eq, sx_mx_eq] at h
          have := ax_sm_mono h
          omega
        | false => rw [c3, sx_if_f] at h; cases h
      | false => rw [c2, sx_if_f] at h; cases h; exact ⟨Nat.le_refl _, Nat.le_refl _⟩
theorem ax_sm_ok {lo hi j : Nat} {q : Nat × Nat} {s : ax_S} (h1 : lo ≤ j) (h2 : j ≤ hi) : ∀ {l : List ax_S} {fr a b : Nat}, fr ≤ j → ax_sm l lo hi fr a b = some q → ax_sg l j j = some s → s.2.1 = 0 ∧ s.2.2.1 ≤ q.1 ∧ q.2 ≤ s.2.2.2.1
  | [], fr, a, b, _, _, hg => by cases hg
  | t :: l, fr, a, b, hf, h, hg => by
    rw [ax_sm_cons] at h
    rw [ax_sg_cons] at hg
    cases c : Nat.ble t.1 lo with
    | true =>
      rw [c, sx_if_t] at h
      have c := sx_ble c
      rw [sx_blt_e (show ¬ j < t.1 by omega), sx_if_f] at hg
      exact ax_sm_ok h1 h2 (by omega) h hg
    | false =>
      rw [c, sx_if_f, show Nat.ble fr hi = true from Nat.ble_eq.mpr (by omega), sx_if_t] at h
      cases c3 : Nat.beq t.2.1 0 with
      | false => rw [c3, sx_if_f] at h; cases h
      | true =>
        rw [c3, sx_if_t, sx_fo_eq, sx_fo_eq, sx_mn_eq, sx_mx_eq] at h
        by_cases hj : j < t.1
        · rw [sx_blt_t hj, sx_if_t, sx_if_t] at hg
          cases hg
          have := ax_sm_mono h
          exact ⟨sx_beq c3, by omega, by omega⟩
        · rw [sx_blt_e hj, sx_if_f] at hg
          exact ax_sm_ok h1 h2 (by omega) h hg
theorem ax_Sk.of {c j z : Nat} (h : ∃ s, ax_sg (ax_cl c).2.2 (j % (ax_cl c).2.1) (j % (ax_cl c).2.1) = some s ∧ ((s.2.1 = 0 ∧ s.2.2.1 ≤ z ∧ z ≤ s.2.2.2.1) ∨ (s.2.1 = 4 ∧ ((s.2.2.1 ≤ z ∧ z ≤ s.2.2.2.1) ∨ (s.2.2.2.2.1 ≤ z ∧ z ≤ s.2.2.2.2.2))))) : ax_Sk c j z := by
  unfold ax_Sk
  rw [ax_gK_eq]
  exact h
theorem ax_Sk.to {c j z : Nat} (h : ax_Sk c j z) : ∃ s, ax_sg (ax_cl c).2.2 (j % (ax_cl c).2.1) (j % (ax_cl c).2.1) = some s ∧ ((s.2.1 = 0 ∧ s.2.2.1 ≤ z ∧ z ≤ s.2.2.2.1) ∨ (s.2.1 = 4 ∧ ((s.2.2.1 ≤ z ∧ z ≤ s.2.2.2.1) ∨ (s.2.2.2.2.1 ≤ z ∧ z ≤ s.2.2.2.2.2)))) := by
  unfold ax_Sk at h
  rw [ax_gK_eq] at h
  exact h
/-- ints in arrays of ints -/
theorem ax_k100 {c j v : Nat} (hc : (ax_cl c).1 % 256 = 100) (h : ax_Pk c j v) : ∃ P, v = sx_i P ∧ ax_Sk c j (sx_b P) := by
  obtain ⟨s, h1, h2⟩ := h
  have ht := ax_tk1_at c
  simp only [ax_tk1, Bool.and_eq_true, Bool.or_eq_true, bne_iff_ne, ne_eq, List.all_eq_true, beq_iff_eq] at ht
  have hk := (ht.1.1.1.resolve_left (fun q => q hc)) s (ax_sg_mem h1)
  rcases h2 with ⟨k, P, e, b1, b2⟩ | ⟨k, -⟩ | ⟨k, -⟩ | ⟨k, -⟩ | ⟨k, P, e, b⟩
  · exact ⟨P, e, ax_Sk.of ⟨s, h1, Or.inl ⟨k, b1, b2⟩⟩⟩
  · omega
  · omega
  · omega
  · exact ⟨P, e, ax_Sk.of ⟨s, h1, Or.inr ⟨k, b⟩⟩⟩
theorem ax_Sk.P {c j : Nat} {P : Int32} (h : ax_Sk c j (sx_b P)) : ax_Pk c j (sx_i P) := by
  unfold ax_Sk at h
  rw [ax_gK_eq] at h
  obtain ⟨s, h1, h2⟩ := h
  rcases h2 with ⟨k, b1, b2⟩ | ⟨k, b⟩
  · exact ⟨s, h1, Or.inl ⟨k, P, rfl, b1, b2⟩⟩
  · exact ⟨s, h1, Or.inr (Or.inr (Or.inr (Or.inr ⟨k, P, rfl, b⟩)))⟩
theorem ax_k101 {c j v : Nat} (hc : (ax_cl c).1 % 256 = 101) (h : ax_Pk c j v) : v % 8 = 0 ∧ ∀ u, u % 8 = 0 → ax_Pk c j u := by
  obtain ⟨s, h1, h2⟩ := h
  have ht := ax_tk1_at c
  simp only [ax_tk1, Bool.and_eq_true, Bool.or_eq_true, bne_iff_ne, ne_eq, List.all_eq_true, beq_iff_eq] at ht
  have hk := (ht.1.1.2.resolve_left (fun q => q hc)) s (ax_sg_mem h1)
  rcases h2 with ⟨k, -⟩ | ⟨k, -⟩ | ⟨k, -⟩ | ⟨k, h3⟩ | ⟨k, -⟩
  · omega
  · omega
  · omega
  · exact ⟨h3, fun u hu => ⟨s, h1, Or.inr (Or.inr (Or.inr (Or.inl ⟨k, hu⟩)))⟩⟩
  · omega
/-- which stretch is read of lo to hi -/
theorem ax_lh {lo hi per j : Nat} (h1 : lo ≤ j) (h2 : j ≤ hi) (h : sx_and (Nat.ble per hi) (Nat.blt lo hi) = false) : Nat.mod lo per ≤ j % per ∧ j % per ≤ sx_if (Nat.beq lo hi) (Nat.mod lo per) hi := by
  cases c : Nat.beq lo hi with
  | true =>
    have c := sx_beq c
    have e : j = lo := by omega
    rw [sx_if_t, e]
    exact ⟨Nat.le_refl _, Nat.le_refl _⟩
  | false =>
    have c := sx_beq_f c
    rw [sx_blt_t (show lo < hi by omega)] at h
    have hp : hi < per := by
      cases c2 : Nat.ble per hi with
      | true => rw [c2] at h; cases h
      | false => exact sx_ble_f c2
    rw [sx_if_f, show Nat.mod lo per = lo from Nat.mod_eq_of_lt (by omega), Nat.mod_eq_of_lt (show j < per by omega)]
    omega
theorem ax_mg_mem {c k v : Nat} : ∀ {M : ax_M}, ax_mg M c k = some v → (c, k, v) ∈ M
  | [], h => by cases h
  | m :: M, h => by
    have h : sx_if (sx_and (Nat.beq m.1 c) (Nat.beq m.2.1 k)) (some m.2.2) (ax_mg M c k) = some v := h
    cases q : sx_and (Nat.beq m.1 c) (Nat.beq m.2.1 k) with
    | true =>
      rw [q, sx_if_t] at h
      cases h
      obtain ⟨q1, q2⟩ := sx_and_ok q
      obtain ⟨a, b, d⟩ := m
      have q1 : a = c := sx_beq q1
      have q2 : b = k := sx_beq q2
      subst q1 q2
      exact List.mem_cons_self
    | false =>
      rw [q, sx_if_f] at h
      exact List.mem_cons_of_mem _ (ax_mg_mem h)
section AXLd
variable {W : ax_W} {g : ax_G} {ρ : List Nat} {M : ax_M} {F : ax_F} {Y : ax_Y} {n : Nat} {outs : List ax_O} {hh : sx_H}
theorem ax_Mk.at (hM : ax_Mk W ρ M hh) {c key v j : Nat} (h : ax_mg M c key = some v) (hc : c < 160) (hj : ax_J ρ key (2147483648 + j)) : ax_V ρ v (sx_get (sx_rd hh c).2 j) := by
  rcases hM _ (ax_mg_mem h) with ⟨q, -⟩ | ⟨-, j', -, q2, -, q3⟩
  · have q : c = 999 := q
    omega
  · have q2 : ax_J ρ key (2147483648 + j') := q2
    have := q2.uniq hj
    have e : j' = j := by omega
    subst e
    exact q3
/-- what is read there, and what is then known -/
def ax_Red (W : ax_W) (ρ : List Nat) (hh : sx_H) (outs : List ax_O) (K : Nat → ax_M → ax_Y → Nat → ax_R) (v : Nat) : Prop := ∃ ρ' a M' Y' n' outs', K a M' Y' n' = some outs' ∧ (∀ o ∈ outs', o ∈ outs) ∧ ρ <+: ρ' ∧ ax_Yk ρ' Y' n' ∧ ax_V ρ' a v ∧ ax_Mk W ρ' M' hh
theorem ax_Red.sub {K : Nat → ax_M → ax_Y → Nat → ax_R} {v : Nat} {o1 : List ax_O} (h : ax_Red W ρ hh o1 K v) (hs : ∀ o ∈ o1, o ∈ outs) : ax_Red W ρ hh outs K v := by
  obtain ⟨ρ', a, M', Y', n', o', h1, h2, h3⟩ := h
  exact ⟨ρ', a, M', Y', n', o', h1, fun o ho => hs o (h2 o ho), h3⟩
theorem ax_ld_ok {arr : Bool} {c key lo hi j : Nat} {K : Nat → ax_M → ax_Y → Nat → ax_R} (h : ax_ld g arr c key lo hi (ax_cl c).2.1 (ax_cl c).2.2 M Y n K = some outs) (hY : ax_Yk ρ Y n) (hM : ax_Mk W ρ M hh) (hs : ax_Hs hh) (hc : c < 160) (hj : j < (ax_cl c).1 / 256) (hJ : ax_J ρ key (2147483648 + j)) (hk : ax_ar c = false → key = 8 * j) (h1 : lo ≤ j) (h2 : j ≤ hi) (h100 : lo < hi → (ax_cl c).1 % 256 = 100) : ax_Red W ρ hh outs K (sx_get (sx_rd hh c).2 j) := by
  have hp := hs.pk c j hc hj
  have mem : ∀ {ρ' : List Nat} {a : Nat} {b : Bool}, ρ <+: ρ' → ax_V ρ' a (sx_get (sx_rd hh c).2 j) → ax_Mk W ρ' (sx_if b M ((c, key, a) :: M)) hh := by
    intro ρ' a b hp hv
    cases b with
    | true => exact hM.mono hp
    | false =>
      intro m hm
      rcases List.mem_cons.mp hm with rfl | hm
      · exact Or.inr ⟨hc, j, hj, hJ.mono hp, hk, hv⟩
      · exact hM.mono hp m hm
  have got : ∀ {P : Int32} {o1 : List ax_O}, sx_get (sx_rd hh c).2 j = sx_i P → ax_Got ρ o1 (fun v Y n => K v (sx_if (sx_and arr (Nat.beq g.2.1 0)) M ((c, key, v) :: M)) Y n) (sx_b P) → ax_Red W ρ hh o1 K (sx_get (sx_rd hh c).2 j) := by
    intro P o1 e G
    obtain ⟨ρ', v, Y', n', o', g1, g2, g3, g4, g5⟩ := G
    have hv : ax_V ρ' v (sx_get (sx_rd hh c).2 j) := by rw [e]; exact ax_V.int g5
    exact ⟨ρ', v, _, Y', n', o', g1, g2, g3, g4, hv, mem g3 hv⟩
  unfold ax_ld at h
  cases hm : ax_mg M c key with
  | some v =>
    rw [hm] at h
    exact ⟨ρ, v, M, Y, n, outs, h, fun _ h => h, List.prefix_rfl, hY, hM.at hm hc hJ, hM⟩
  | none =>
    rw [hm] at h
    rcases ax_if (outs := outs) h with ⟨c1, h⟩ | ⟨c1, h⟩
    · obtain ⟨-, c1⟩ := sx_and_ok c1
      obtain ⟨P, e, hk⟩ := ax_k100 (h100 (sx_blt c1)) hp
      obtain ⟨v, a1, a2, a3⟩ := ax_fr_ok (r := sx_b P) h hY ⟨⟨Nat.zero_le _, by have := sx_b_lt P; show _ ≤ 4294967295; omega⟩, sx_b_lt P, fun q => by simp at q, fun q => by simp at q, fun q => by simp at q, fun q => by simp at q, fun q => by simp at q, fun q => by simp at q, fun _ => ⟨j, hJ, hk⟩⟩
      exact got e ⟨_, v, _, _, outs, a1, fun _ h => h, List.prefix_append _ _, a2, a3⟩
    · obtain ⟨l1, l2⟩ := ax_lh h1 h2 c1
      cases hg : ax_sg (ax_cl c).2.2 (Nat.mod lo (ax_cl c).2.1) (sx_if (Nat.beq lo hi) (Nat.mod lo (ax_cl c).2.1) hi) with
      | none =>
        rw [hg] at h
        obtain ⟨q, hq, h⟩ := ax_opt_h (outs := outs) h
        obtain ⟨s, k1, k2⟩ := hp
        obtain ⟨z1, z2, z3⟩ := ax_sj_ok l1 l2 (Nat.zero_le _) hq k1
        rcases k2 with ⟨-, P, e, b1, b2⟩ | ⟨k, -⟩ | ⟨k, -⟩ | ⟨k, -⟩ | ⟨k, -⟩
        · have hk : ax_Sk c j (sx_b P) := by
            unfold ax_Sk
            rw [ax_gK_eq]
            exact ⟨s, k1, Or.inl ⟨z1, b1, b2⟩⟩
          obtain ⟨v, a1, a2, a3⟩ := ax_fr_ok (r := sx_b P) h hY ⟨⟨by show q.1 ≤ _; omega, by show _ ≤ q.2; omega⟩, sx_b_lt P, fun q => by simp at q, fun q => by simp at q, fun q => by simp at q, fun q => by simp at q, fun q => by simp at q, fun q => by simp at q, fun _ => ⟨j, hJ, hk⟩⟩
          exact got e ⟨_, v, _, _, outs, a1, fun _ h => h, List.prefix_append _ _, a2, a3⟩
        all_goals omega
      | some s0 =>
        rw [hg] at h
        obtain ⟨s, k1, k2⟩ := hp
        have es := (ax_sg_in l1 l2 hg).symm.trans k1
        cases es
        rcases ax_if (outs := outs) h with ⟨q, h⟩ | ⟨q, h⟩
        · have q := sx_beq q
          rcases k2 with ⟨-, P, e, b1, b2⟩ | ⟨k, -⟩ | ⟨k, -⟩ | ⟨k, -⟩ | ⟨k, -⟩
          · exact got e (ax_fn_plain h hY b1 b2 (sx_b_lt P))
          all_goals omega
        · have q := sx_beq_f q
          rcases ax_if (outs := outs) h with ⟨q1, h⟩ | ⟨q1, h⟩
          · have q1 := sx_beq q1
            rcases k2 with ⟨k, -⟩ | ⟨-, e, b⟩ | ⟨k, -⟩ | ⟨k, -⟩ | ⟨k, -⟩
            · omega
            · exact ⟨ρ, _, M, Y, n, outs, h, fun _ h => h, List.prefix_rfl, hY, by rw [e]; exact ax_V.ref b, hM⟩
            all_goals omega
          · have q1 := sx_beq_f q1
            rcases ax_if (outs := outs) h with ⟨q2, h⟩ | ⟨q2, h⟩
            · have q2 := sx_beq q2
              obtain ⟨o1, o2, a1, a2, rfl⟩ := ax_app_ok h
              rcases k2 with ⟨k, -⟩ | ⟨k, -⟩ | ⟨-, e, b1, b2⟩ | ⟨k, -⟩ | ⟨k, -⟩
              · omega
              · omega
              · rcases e with e | e
                · have hv : ax_V ρ s0.2.2.1 (sx_get (sx_rd hh c).2 j) := by rw [e]; exact ax_V.ref b1
                  exact ⟨ρ, _, _, Y, n, o1, a1, fun o ho => List.mem_append_left _ ho, List.prefix_rfl, hY, hv, mem (b := false) List.prefix_rfl hv⟩
                · have hv : ax_V ρ s0.2.2.2.1 (sx_get (sx_rd hh c).2 j) := by rw [e]; exact ax_V.ref b2
                  exact ⟨ρ, _, _, Y, n, o2, a2, fun o ho => List.mem_append_right _ ho, List.prefix_rfl, hY, hv, mem (b := false) List.prefix_rfl hv⟩
              all_goals omega
            · have q2 := sx_beq_f q2
              obtain ⟨q4, h⟩ := ax_if0 h
              have q4 := sx_beq q4
              obtain ⟨o1, o2, a1, a2, rfl⟩ := ax_app_ok h
              rcases k2 with ⟨k, -⟩ | ⟨k, -⟩ | ⟨k, -⟩ | ⟨k, -⟩ | ⟨-, P, e, b⟩
              · omega
              · omega
              · omega
              · omega
              · rcases b with ⟨b1, b2⟩ | ⟨b1, b2⟩
                · exact (got e (ax_fn_plain a1 hY b1 b2 (sx_b_lt P))).sub (fun o ho => List.mem_append_left _ ho)
                · exact (got e (ax_fn_plain a2 hY b1 b2 (sx_b_lt P))).sub (fun o ho => List.mem_append_right _ ho)
end AXLd
end
section
/-! ax: writing places -/
theorem ax_fam {i : Nat} (hi : i < 364) {s : ax_S} : (ax_sg (ax_cl 152).2.2 i i = some s → ∃ s', ax_sg (ax_cl 149).2.2 i i = some s' ∧ s'.2 = s.2) ∧ (ax_sg (ax_cl 149).2.2 i i = some s → ∃ s', ax_sg (ax_cl 152).2.2 i i = some s' ∧ s'.2 = s.2) := by
  have h := of_decide_eq_true (List.all_eq_true.mp ax_tk3_ok i (List.mem_range.mpr hi))
  constructor
  · intro q
    rw [q] at h
    cases q2 : ax_sg (ax_cl 149).2.2 i i with
    | none => rw [q2] at h; cases h
    | some s' => rw [q2] at h; exact ⟨s', rfl, (Option.some.inj h).symm⟩
  · intro q
    rw [q] at h
    cases q2 : ax_sg (ax_cl 152).2.2 i i with
    | none => rw [q2] at h; cases h
    | some s' => rw [q2] at h; exact ⟨s', rfl, Option.some.inj h⟩
theorem ax_l364 {c : Nat} (h : (ax_cl c).2.1 = 364) : (ax_cl c).2.2 = (ax_cl 152).2.2 := by
  have ht := ax_tk1_at c
  simp only [ax_tk1, Bool.and_eq_true, Bool.or_eq_true, bne_iff_ne, ne_eq, List.all_eq_true, beq_iff_eq] at ht
  exact ht.1.2.resolve_left (fun q => q h)
theorem ax_l764 {c : Nat} (h : (ax_cl c).2.1 = 764) : (ax_cl c).2.2 = (ax_cl 149).2.2 := by
  have ht := ax_tk1_at c
  simp only [ax_tk1, Bool.and_eq_true, Bool.or_eq_true, bne_iff_ne, ne_eq, List.all_eq_true, beq_iff_eq] at ht
  exact ht.2.resolve_left (fun q => q h)
def ax_Sz (s : ax_S) (z : Nat) : Prop := (s.2.1 = 0 ∧ s.2.2.1 ≤ z ∧ z ≤ s.2.2.2.1) ∨ (s.2.1 = 4 ∧ ((s.2.2.1 ≤ z ∧ z ≤ s.2.2.2.1) ∨ (s.2.2.2.2.1 ≤ z ∧ z ≤ s.2.2.2.2.2)))
theorem ax_Sz.eq {s s' : ax_S} {z : Nat} (h : ax_Sz s z) (e : s'.2 = s.2) : ax_Sz s' z := by unfold ax_Sz; rw [e]; exact h
theorem ax_mk_t {Y : ax_Y} {n x : Nat} {G : Nat → Nat → Nat → Bool} (h : ax_mk false Y n x G = true) : x % 8 = 1 := by
  unfold ax_mk at h
  cases c : sx_and (Nat.beq (sx_tg x) 1) (Nat.beq (ax_o x) 8589934592) with
  | true => exact sx_beq (sx_and_ok c).1
  | false => rw [c, sx_if_f] at h; cases h
section AXPut
variable {W : ax_W} {g : ax_G} {ρ : List Nat} {M : ax_M} {F : ax_F} {Y : ax_Y} {n : Nat} {outs : List ax_O} {hh : sx_H}
theorem ax_fm_ok {c key hi v j z : Nat} (h : ax_fm key hi (ax_cl c).2.1 v Y n = true) (hY : ax_Yk ρ Y n) (hv : ax_J ρ v z) (hJ : ax_J ρ key (2147483648 + j)) (h2 : j ≤ hi) : ax_Sk c j z := by
  unfold ax_fm at h
  rcases ax_mk_ok (df := false) (G := fun op c' k => sx_and (Nat.beq op 6) (ax_gK ax_gt c' (fun _ per' _ => sx_and (sx_and (Nat.beq (sx_tg key) 1) (sx_and (Nat.beq (sx_tg k) 1) (Nat.beq (ax_k key) (ax_k k))))
    (sx_if (sx_and (Nat.beq (ax_cl c).2.1 364) (Nat.beq per' 364)) (Nat.beq (Nat.mod (ax_o key) 364) (Nat.mod (ax_o k) 364))
      (sx_if (sx_and (Nat.beq (ax_cl c).2.1 764) (Nat.beq per' 764)) (Nat.beq key k)
        (sx_if (sx_and (Nat.beq (ax_cl c).2.1 764) (Nat.beq per' 364)) (sx_and (Nat.blt hi 364) (Nat.beq (Nat.mod (ax_o key) 364) (Nat.mod (ax_o k) 364)))
          (sx_and (sx_and (Nat.beq (ax_cl c).2.1 364) (Nat.beq per' 764)) (sx_and (ax_rg false Y n k (fun _ kh => Nat.blt kh 2147484012)) (Nat.beq (Nat.mod (ax_o key) 364) (Nat.mod (ax_o k) 364)))))))))) hY hv with q | ⟨e, q, E⟩
  · rw [q] at h; cases h
  · rw [q] at h
    obtain ⟨c6, h⟩ := sx_and_ok h
    obtain ⟨j', hJ', hS⟩ := E.2.2.2.2.2.2.2.2 (sx_beq c6)
    obtain ⟨s, hs1, hs2⟩ := hS.to
    have hs2 : ax_Sz s z := hs2
    rw [ax_gK_eq] at h
    obtain ⟨k1, h⟩ := sx_and_ok h
    obtain ⟨k1, k2⟩ := sx_and_ok k1
    obtain ⟨k2, k3⟩ := sx_and_ok k2
    have k1 : key % 8 = 1 := sx_beq k1
    have k2 : e.2.2.2.2.2 % 8 = 1 := sx_beq k2
    have k3 := sx_beq k3
    obtain ⟨r, r1, r2⟩ := hJ.t1 k1
    obtain ⟨r', r3, r4⟩ := hJ'.t1 k2
    rw [k3] at r1
    cases r1.symm.trans r3
    cases cA : sx_and (Nat.beq (ax_cl c).2.1 364) (Nat.beq (ax_cl e.2.2.2.2.1).2.1 364) with
    | true =>
      rw [cA, sx_if_t] at h
      obtain ⟨a1, a2⟩ := sx_and_ok cA
      have a1 := sx_beq a1
      have a2 := sx_beq a2
      have h : ax_o key % 364 = ax_o e.2.2.2.2.2 % 364 := sx_beq h
      have ej : j % 364 = j' % 364 := by omega
      refine ax_Sk.of ⟨s, ?_, hs2⟩
      rw [a1, ax_l364 a1, ej]
      rw [a2, ax_l364 a2] at hs1
      exact hs1
    | false =>
      rw [cA, sx_if_f] at h
      cases cB : sx_and (Nat.beq (ax_cl c).2.1 764) (Nat.beq (ax_cl e.2.2.2.2.1).2.1 764) with
      | true =>
        rw [cB, sx_if_t] at h
        obtain ⟨a1, a2⟩ := sx_and_ok cB
        have a1 := sx_beq a1
        have a2 := sx_beq a2
        have h : key = e.2.2.2.2.2 := sx_beq h
        rw [h] at r2
        have ej : j = j' := by omega
        refine ax_Sk.of ⟨s, ?_, hs2⟩
        rw [a1, ax_l764 a1, ej]
        rw [a2, ax_l764 a2] at hs1
        exact hs1
      | false =>
        rw [cB, sx_if_f] at h
        cases cC : sx_and (Nat.beq (ax_cl c).2.1 764) (Nat.beq (ax_cl e.2.2.2.2.1).2.1 364) with
        | true =>
          rw [cC, sx_if_t] at h
          obtain ⟨a1, a2⟩ := sx_and_ok cC
          have a1 := sx_beq a1
          have a2 := sx_beq a2
          obtain ⟨d1, d2⟩ := sx_and_ok h
          have d1 : hi < 364 := sx_blt d1
          have d2 : ax_o key % 364 = ax_o e.2.2.2.2.2 % 364 := sx_beq d2
          have ej : j' % 364 = j := by omega
          rw [a2, ax_l364 a2, ej] at hs1
          obtain ⟨s', z1, z2⟩ := (ax_fam (i := j) (by omega)).1 hs1
          refine ax_Sk.of ⟨s', ?_, hs2.eq z2⟩
          rw [a1, ax_l764 a1, Nat.mod_eq_of_lt (by omega)]
          exact z1
        | false =>
          rw [cC, sx_if_f] at h
          obtain ⟨cD, h⟩ := sx_and_ok h
          obtain ⟨a1, a2⟩ := sx_and_ok cD
          have a1 := sx_beq a1
          have a2 := sx_beq a2
          obtain ⟨d1, d2⟩ := sx_and_ok h
          have d2 : ax_o key % 364 = ax_o e.2.2.2.2.2 % 364 := sx_beq d2
          obtain ⟨kl, kh, w1, w2, w3⟩ := ax_rg_ok (df := false) (K := fun _ kh => Nat.blt kh 2147484012) hY hJ'
          rw [w1] at d1
          have d1 : kh < 2147484012 := sx_blt d1
          have ej : j % 364 = j' := by omega
          rw [a2, ax_l764 a2, Nat.mod_eq_of_lt (show j' < 764 by omega)] at hs1
          obtain ⟨s', z1, z2⟩ := (ax_fam (i := j') (by omega)).2 hs1
          refine ax_Sk.of ⟨s', ?_, hs2.eq z2⟩
          rw [a1, ax_l364 a1, ej]
          exact z1
theorem ax_ok_ok {c key lo hi v cv j old : Nat} (h : ax_ok key lo hi (ax_cl c).2.1 v (ax_cl c).2.2 Y n = true) (hY : ax_Yk ρ Y n) (hv : ax_V ρ v cv) (hJ : key % 8 = 1 → ax_J ρ key (2147483648 + j)) (h1 : lo ≤ j) (h2 : j ≤ hi) (hp : ax_Pk c j old) : ax_Pk c j cv := by
  unfold ax_ok at h
  cases hf : ax_fm key hi (ax_cl c).2.1 v Y n with
  | true =>
    have t : v % 8 = 1 := ax_mk_t hf
    obtain ⟨P, j1, rfl⟩ := hv.toInt (by omega)
    have kt : key % 8 = 1 := by
      unfold ax_fm at hf
      rcases ax_mk_ok (df := false) (G := fun op c' k => sx_and (Nat.beq op 6) (ax_gK ax_gt c' (fun _ per' _ => sx_and (sx_and (Nat.beq (sx_tg key) 1) (sx_and (Nat.beq (sx_tg k) 1) (Nat.beq (ax_k key) (ax_k k))))
        (sx_if (sx_and (Nat.beq (ax_cl c).2.1 364) (Nat.beq per' 364)) (Nat.beq (Nat.mod (ax_o key) 364) (Nat.mod (ax_o k) 364))
          (sx_if (sx_and (Nat.beq (ax_cl c).2.1 764) (Nat.beq per' 764)) (Nat.beq key k)
            (sx_if (sx_and (Nat.beq (ax_cl c).2.1 764) (Nat.beq per' 364)) (sx_and (Nat.blt hi 364) (Nat.beq (Nat.mod (ax_o key) 364) (Nat.mod (ax_o k) 364)))
              (sx_and (sx_and (Nat.beq (ax_cl c).2.1 364) (Nat.beq per' 764)) (sx_and (ax_rg false Y n k (fun _ kh => Nat.blt kh 2147484012)) (Nat.beq (Nat.mod (ax_o key) 364) (Nat.mod (ax_o k) 364)))))))))) hY j1 with q | ⟨e, q, E⟩
      · rw [q] at hf; cases hf
      · rw [q] at hf
        obtain ⟨-, hf⟩ := sx_and_ok hf
        rw [ax_gK_eq] at hf
        obtain ⟨k1, -⟩ := sx_and_ok hf
        obtain ⟨k1, -⟩ := sx_and_ok k1
        exact sx_beq k1
    exact (ax_fm_ok hf hY j1 (hJ kt) h2).P
  | false =>
    rw [hf, sx_if_f] at h
    cases c1 : sx_and (Nat.ble (ax_cl c).2.1 hi) (Nat.blt lo hi) with
    | true => rw [c1, sx_if_t] at h; cases h
    | false =>
      rw [c1, sx_if_f] at h
      obtain ⟨l1, l2⟩ := ax_lh h1 h2 c1
      have int : ∀ {a b : Nat}, ax_in Y n v a b = true → ∃ P, cv = sx_i P ∧ a ≤ sx_b P ∧ sx_b P ≤ b := by
        intro a b q
        obtain ⟨P, j1, e⟩ := hv.toInt (ax_in_tag q)
        exact ⟨P, e, ax_in_ok q hY j1⟩
      have ref : ax_Rk v → cv = v := fun q => (hv.toRef q.1 q.2.1).2
      obtain ⟨s, k1, k2⟩ := hp
      cases hg : ax_sg (ax_cl c).2.2 (Nat.mod lo (ax_cl c).2.1) (sx_if (Nat.beq lo hi) (Nat.mod lo (ax_cl c).2.1) hi) with
      | none =>
        rw [hg] at h
        cases hq : ax_sm (ax_cl c).2.2 (Nat.mod lo (ax_cl c).2.1) (sx_if (Nat.beq lo hi) (Nat.mod lo (ax_cl c).2.1) hi) 0 0 4294967295 with
        | none => rw [hq] at h; cases h
        | some q =>
          rw [hq] at h
          have h : ax_in Y n v q.1 q.2 = true := h
          obtain ⟨z1, z2, z3⟩ := ax_sm_ok l1 l2 (Nat.zero_le _) hq k1
          obtain ⟨P, e, b1, b2⟩ := int h
          exact ⟨s, k1, Or.inl ⟨z1, P, e, by omega, by omega⟩⟩
      | some s0 =>
        rw [hg] at h
        have es := (ax_sg_in l1 l2 hg).symm.trans k1
        have es := Option.some.inj es
        subst es
        have h : sx_if (Nat.beq s0.2.1 0) (ax_in Y n v s0.2.2.1 s0.2.2.2.1) (sx_if (Nat.beq s0.2.1 1) (Nat.beq v s0.2.2.1) (sx_if (Nat.beq s0.2.1 2) (sx_if (Nat.beq v s0.2.2.1) true (Nat.beq v s0.2.2.2.1)) (sx_if (Nat.beq s0.2.1 4) (sx_if (ax_in Y n v s0.2.2.1 s0.2.2.2.1) true (ax_in Y n v s0.2.2.2.2.1 s0.2.2.2.2.2)) false))) = true := h
        refine ⟨s0, k1, ?_⟩
        rcases k2 with ⟨k, -⟩ | ⟨k, -, b⟩ | ⟨k, -, b1, b2⟩ | ⟨k, -⟩ | ⟨k, -⟩
        · rw [sx_beq_t k, sx_if_t] at h
          exact Or.inl ⟨k, int h⟩
        · rw [k] at h
          have h := sx_beq h
          subst h
          exact Or.inr (Or.inl ⟨k, ref b, b⟩)
        · rw [k] at h
          refine Or.inr (Or.inr (Or.inl ⟨k, ?_, b1, b2⟩))
          rcases ax_or h with q | q
          · have q := sx_beq q
            subst q
            exact Or.inl (ref b1)
          · have q := sx_beq q
            subst q
            exact Or.inr (ref b2)
        · rw [k] at h; cases h
        · rw [k] at h
          refine Or.inr (Or.inr (Or.inr (Or.inr ⟨k, ?_⟩)))
          rcases ax_or h with q | q
          · obtain ⟨P, e, b⟩ := int q
            exact ⟨P, e, Or.inl b⟩
          · obtain ⟨P, e, b⟩ := int q
            exact ⟨P, e, Or.inr b⟩
/-- a place written -/
theorem ax_wr_at {c j cv hd : Nat} (hv : cv < 4722366482869645213696) : sx_get (sx_rd (sx_wr hh c (hd, sx_set (sx_rd hh c).2 j cv)) c).2 j = cv := by
  rw [sx_rd_wr]; exact sx_get_set hv
theorem ax_wr_ne {c j cv hd c' j' : Nat} (hv : cv < 4722366482869645213696) (hc : c < 160) (hc' : c' < 160) (h : ¬ (c' = c ∧ j' = j)) : sx_get (sx_rd (sx_wr hh c (hd, sx_set (sx_rd hh c).2 j cv)) c').2 j' = sx_get (sx_rd hh c').2 j' := by
  by_cases e : c' = c
  · subst e
    rw [sx_rd_wr]
    exact sx_get_set_ne hv (fun q => h ⟨rfl, q⟩)
  · rw [sx_rd_wr_ne hh _ (by omega) (by omega) e]
theorem ax_wr_hs {c j cv : Nat} (hs : ax_Hs hh) (hv : cv < 4722366482869645213696) (hc : c < 160) (hp : ax_Pk c j cv) : ax_Hs (sx_wr hh c ((ax_cl c).1, sx_set (sx_rd hh c).2 j cv)) := by
  refine ⟨fun c' h' => ?_, fun c' j' h' hj' => ?_⟩
  · by_cases e : c' = c
    · subst e; rw [sx_rd_wr]
    · rw [sx_rd_wr_ne hh _ (by omega) (by omega) e]; exact hs.hd c' h'
  · by_cases e : c' = c ∧ j' = j
    · obtain ⟨rfl, rfl⟩ := e
      rw [ax_wr_at hv]; exact hp
    · rw [ax_wr_ne hv hc h' e]; exact hs.pk c' j' h' hj'
theorem ax_wr_fr {h0 : sx_H} {md c j cv hd lo hi b : Nat} (hf : ax_Fr h0 md hh) (hv : cv < 4722366482869645213696) (hc : c < 160) (hb : ax_tb md (ax_bit (ax_ar c) c j) = true) (hk : ax_kg md c lo hi b = true) (h1 : lo ≤ j) (h2 : j ≤ hi) (h3 : c = 148 ∨ c = 3 ∨ c = 56 → lo = j) (hb0 : b = 0 → cv = 0) : ax_Fr h0 md (sx_wr hh c (hd, sx_set (sx_rd hh c).2 j cv)) := by
  refine ⟨fun c' j' h' hj' hn => ?_, fun hg j' hj' => ?_⟩
  · rw [ax_wr_ne hv hc h' (fun q => by obtain ⟨rfl, rfl⟩ := q; rw [hb] at hn; cases hn)]
    exact hf.1 c' j' h' hj' hn
  · unfold ax_kg at hk
    rw [show Nat.beq (Nat.mod (Nat.shiftRight md 5120) 2) 1 = false from hg, sx_if_f] at hk
    rw [ax_wr_ne hv hc (by decide) (fun q => by
      obtain ⟨q1, q2⟩ := q
      subst q1 q2
      have := ax_kp_ok hk
      omega)]
    exact hf.2 hg j' hj'
theorem ax_mf_ok {c lo hi : Nat} (hY : ax_Yk ρ Y n) : ∀ {M : ax_M} {m : Nat × Nat × Nat}, m ∈ ax_mf Y n c lo hi M → m ∈ M ∧ (m.1 = c → ∀ z, ax_J ρ m.2.1 z → z < lo ∨ hi < z)
  | [], m, h => by cases h
  | q :: M, m, h => by
    have h : m ∈ sx_if (Nat.beq q.1 c) (ax_rg (ax_mf Y n c lo hi M) Y n q.2.1 (fun kl kh => sx_if (sx_if (Nat.blt kh lo) true (Nat.blt hi kl)) (q :: ax_mf Y n c lo hi M) (ax_mf Y n c lo hi M))) (q :: ax_mf Y n c lo hi M) := h
    have back : m ∈ ax_mf Y n c lo hi M → m ∈ q :: M ∧ (m.1 = c → ∀ z, ax_J ρ m.2.1 z → z < lo ∨ hi < z) := fun h => by
      obtain ⟨h1, h2⟩ := ax_mf_ok hY h
      exact ⟨List.mem_cons_of_mem _ h1, h2⟩
    cases e : Nat.beq q.1 c with
    | false =>
      rw [e, sx_if_f] at h
      rcases List.mem_cons.mp h with rfl | h
      · exact ⟨List.mem_cons_self, fun q => absurd q (sx_beq_f e)⟩
      · exact back h
    | true =>
      rw [e, sx_if_t] at h
      by_cases hm : m ∈ ax_mf Y n c lo hi M
      · exact back hm
      · have : m = q := by
          unfold ax_rg at h
          cases t0 : Nat.beq (sx_tg q.2.1) 0 with
          | true =>
            rw [t0, sx_if_t, sx_fo_eq] at h
            dsimp only at h
            cases t : sx_if (Nat.blt (sx_bs (sx_pl q.2.1)) lo) true (Nat.blt hi (sx_bs (sx_pl q.2.1))) with
            | true => rw [t, sx_if_t] at h; exact (List.mem_cons.mp h).resolve_right hm
            | false => rw [t, sx_if_f] at h; exact absurd h hm
          | false =>
            rw [t0, sx_if_f] at h
            cases t1 : Nat.beq (sx_tg q.2.1) 1 with
            | false => rw [t1, sx_if_f] at h; exact absurd h hm
            | true =>
              rw [t1, sx_if_t] at h
              cases ta : ax_at Y n (ax_k q.2.1) with
              | none => rw [ta] at h; exact absurd h hm
              | some e =>
                rw [ta] at h
                have h : m ∈ sx_fo (Nat.sub (Nat.add e.1 (ax_o q.2.1)) 8589934592) (fun lo' => sx_fo (Nat.sub (Nat.add e.2.1 (ax_o q.2.1)) 8589934592) (fun hi' => sx_if (sx_if (Nat.blt hi' lo) true (Nat.blt hi lo')) (q :: ax_mf Y n c lo hi M) (ax_mf Y n c lo hi M))) := h
                rw [sx_fo_eq, sx_fo_eq] at h
                cases t : sx_if (Nat.blt (Nat.sub (Nat.add e.2.1 (ax_o q.2.1)) 8589934592) lo) true (Nat.blt hi (Nat.sub (Nat.add e.1 (ax_o q.2.1)) 8589934592)) with
                | true => rw [t, sx_if_t] at h; exact (List.mem_cons.mp h).resolve_right hm
                | false => rw [t, sx_if_f] at h; exact absurd h hm
        subst this
        refine ⟨List.mem_cons_self, fun _ z hz => ?_⟩
        obtain ⟨kl, kh, w1, w2, w3⟩ := ax_rg_ok (df := ax_mf Y n c lo hi M) (K := fun kl kh => sx_if (sx_if (Nat.blt kh lo) true (Nat.blt hi kl)) (m :: ax_mf Y n c lo hi M) (ax_mf Y n c lo hi M)) hY hz
        rw [w1] at h
        cases t : sx_if (Nat.blt kh lo) true (Nat.blt hi kl) with
        | false => rw [t, sx_if_f] at h; exact absurd h hm
        | true =>
          rcases ax_or t with q | q
          · have q : kh < lo := sx_blt q
            omega
          · have q : hi < kl := sx_blt q
            omega
theorem ax_wr_mm {c lo hi j cv hd : Nat} (hM : ax_Mk W ρ M hh) (hY : ax_Yk ρ Y n) (hv : cv < 4722366482869645213696) (hc : c < 160) (h1 : lo ≤ j) (h2 : j ≤ hi) : ax_Mk W ρ (ax_mf Y n c (Nat.add lo 2147483648) (Nat.add hi 2147483648) M) (sx_wr hh c (hd, sx_set (sx_rd hh c).2 j cv)) := fun m hm => by
  obtain ⟨m1, m2⟩ := ax_mf_ok hY hm
  rcases hM m m1 with q | ⟨q1, j', q2, q3, q4, q5⟩
  · exact Or.inl q
  · refine Or.inr ⟨q1, j', q2, q3, q4, ?_⟩
    rw [ax_wr_ne hv hc q1 (fun e => ?_)]
    · exact q5
    · have := m2 e.1 _ q3
      have l1 : Nat.add lo 2147483648 = lo + 2147483648 := rfl
      have l2 : Nat.add hi 2147483648 = hi + 2147483648 := rfl
      omega
theorem ax_wr_cons {c j key a : Nat} {H : sx_H} (hM : ax_Mk W ρ M H) (hc : c < 160) (hj : j < (ax_cl c).1 / 256) (hJ : ax_J ρ key (2147483648 + j)) (hk : ax_ar c = false → key = 8 * j) (hv : ax_V ρ a (sx_get (sx_rd H c).2 j)) : ax_Mk W ρ ((c, key, a) :: M) H := fun m hm => by
  rcases List.mem_cons.mp hm with rfl | hm
  · exact Or.inr ⟨hc, j, hj, hJ, hk, hv⟩
  · exact hM m hm
theorem ax_Pk.lt {c j v : Nat} (h : ax_Pk c j v) (hk : (∀ s ∈ (ax_cl c).2.2, s.2.1 ≠ 3) ∨ v < 4722366482869645213696) : v < 4722366482869645213696 := by
  rcases hk with hk | hk
  · obtain ⟨s, h1, h2⟩ := h
    have hi : ∀ P : Int32, sx_i P < 4722366482869645213696 := fun P => by
      have := P.toBitVec.isLt
      rw [ax_i_eq]; omega
    rcases h2 with ⟨-, P, rfl, -⟩ | ⟨-, rfl, b⟩ | ⟨-, e, b1, b2⟩ | ⟨k, -⟩ | ⟨-, P, rfl, -⟩
    · exact hi P
    · exact b.2.2.1
    · rcases e with rfl | rfl
      · exact b1.2.2.1
      · exact b2.2.2.1
    · exact absurd k (hk s (ax_sg_mem h1))
    · exact hi P
  · exact hk
end AXPut
end
section
/-! ax: steps on cells -/
theorem ax_J_n {ρ : List Nat} {j : Nat} (h : j < 2147483648) : ax_J ρ (8 * j) (2147483648 + j) :=
  ⟨by omega, Or.inl ⟨by omega, by omega, by rw [Nat.mul_div_cancel_left _ (by decide), ax_bs_eq]; omega⟩⟩
section AXS3
variable {W : ax_W} {ih : ax_ih} {g : ax_G} {d D mi cd : Nat} {lst : List ax_I} {pc w : Nat} {L S : List Nat} {M : ax_M} {F : ax_F} {Y : ax_Y} {n th : Nat} {ρ : List Nat} {outs : List ax_O} {hh : sx_H} {cs ss : Nat} {cL cS : List Nat} {Post : sx_O → Prop}
theorem ax_ref2 {o v : Nat} (h : ax_V ρ o v) (t : Nat.beq (sx_tg o) 2 = true) : v = o ∧ sx_pl o < 160 ∧ sx_tg o = 2 := by
  have t' : o % 8 = 2 := sx_beq t
  obtain ⟨k, e⟩ := h.toRef (by omega) (by omega)
  exact ⟨e, k.2.2.2 t', t'⟩
theorem cx_ref {o : Nat} (t : sx_tg o = 2) (h : sx_pl o < 160) : sx_and (Nat.beq (sx_tg o) 2) (Nat.blt (sx_pl o) 160) = true := by
  rw [sx_beq_t t, sx_blt_t h]; rfl
theorem ax_Hs.rd (hs : ax_Hs hh) {c : Nat} (hc : c < 160) {β : Type} (f : Nat → Nat → β) : sx_rdK hh c f = f (ax_cl c).1 (sx_rd hh c).2 := by rw [sx_rdK_eq, hs.hd c hc]
theorem ax_Cx.red (C : ax_Cx W ih d D mi cd lst pc w L S M F Y n th ρ outs hh cs ss cL cS Post) {p v : Nat} {r cr : List Nat} (G : ax_Red W ρ hh outs (fun v M Y n => ax_on ih d mi cd lst th p L (v :: r) M F Y n) v) (H : ax_Ls ρ r cr)
    (hb : ∀ ih, sx_body ih W.N w D mi cd [] pc cL cS hh 160 W.sy cs ss = ih D mi cd [] false p cL (v :: cr) hh 160 W.sy cs ss) : cx_G W D mi cd pc cL cS hh cs ss Post := by
  obtain ⟨ρ', a, M', Y', n', o', h1, h2, h3, h4, h5, h6⟩ := G
  exact C.go h1 h2 h3 ((C.X.mono h3 h4).m h6) (C.HL.mono' h3) (ax_Ls.cons h5 (H.mono' h3)) hb
theorem ax_s9 (C : ax_Cx W ih d D mi cd lst pc w L S M F Y n th ρ outs hh cs ss cL cS Post) (hop : sx_op w = 9) (h : ax_oGet ih g w d mi cd lst pc L S M F Y n th = some outs) : cx_G W D mi cd pc cL cS hh cs ss Post := by
  unfold ax_oGet at h
  obtain ⟨o, r, v, cr, e1, f1, h1, hv, H⟩ := ax_pop h C.HS
  subst e1 f1
  obtain ⟨c, h2⟩ := ax_if0 h1
  obtain ⟨rfl, hc, ht⟩ := ax_ref2 hv c
  rw [ax_gK_eq, sx_fo_eq] at h2
  rcases ax_if h2 with ⟨-, h3⟩ | ⟨c0, h3⟩
  · cases h3
  · rw [sx_fo_eq] at h3
    obtain ⟨cj, h4⟩ := ax_if0 h3
    have cj : Nat.pred (Nat.mod (sx_slot (Nat.mod (ax_cl (sx_pl v)).1 256) (sx_wa w)) 32) < (ax_cl (sx_pl v)).1 / 256 := sx_blt cj
    have cj2 : Nat.pred (Nat.mod (sx_slot (Nat.mod (ax_cl (sx_pl v)).1 256) (sx_wa w)) 32) < 32 := by
      show sx_slot (Nat.mod (ax_cl (sx_pl v)).1 256) (sx_wa w) % 32 - 1 < 32
      omega
    have R := ax_ld_ok h4 C.X.yk C.X.mm C.X.hs hc cj (ax_J_n (by omega)) (fun _ => rfl) (Nat.le_refl _) (Nat.le_refl _) (fun q => absurd q (by omega))
    refine C.red R H (fun ih => ?_)
    rw [cx_b9 hop]; unfold sx_oGet
    rw [cx_p1, cx_ref ht hc, sx_if_t, C.X.hs.rd hc, sx_fo_eq, c0, sx_if_f, sx_fo_eq, sx_fo_eq]
theorem ax_i_lt (P : Int32) : sx_i P < 34359738368 := by
  have := P.toBitVec.isLt
  rw [ax_i_eq]; omega
theorem ax_s10 (hG : ax_Gk W g) (C : ax_Cx W ih d D mi cd lst pc w L S M F Y n th ρ outs hh cs ss cL cS Post) (hop : sx_op w = 10) (h : ax_oPut ih g w d mi cd lst pc L S M F Y n th = some outs) : cx_G W D mi cd pc cL cS hh cs ss Post := by
  unfold ax_oPut at h
  obtain ⟨a, r1, v, cr1, e1, f1, g1, hv, H1⟩ := ax_pop h C.HS
  obtain ⟨o, r2, vo, cr2, e2, f2, g2, ho, H2⟩ := ax_pop g1 H1
  subst e2 f2 e1 f1
  obtain ⟨c, h2⟩ := ax_if0 g2
  obtain ⟨rfl, hc, ht⟩ := ax_ref2 ho c
  rw [ax_gK_eq, sx_fo_eq] at h2
  rcases ax_if h2 with ⟨-, h3⟩ | ⟨c0, h3⟩
  · cases h3
  · rw [sx_fo_eq, sx_fo_eq] at h3
    obtain ⟨cj, h4⟩ := ax_if0 h3
    obtain ⟨c1, c2⟩ := sx_and_ok cj
    obtain ⟨c1, c3⟩ := sx_and_ok c1
    obtain ⟨c3, c4⟩ := sx_and_ok c3
    obtain ⟨c2, c5⟩ := sx_and_ok c2
    obtain ⟨c2, ck⟩ := sx_and_ok c2
    rw [sx_fo_eq] at h4
    generalize hjd : Nat.pred (Nat.mod (sx_slot (Nat.mod (ax_cl (sx_pl vo)).1 256) (sx_wa w)) 32) = j at *
    have c1 : j < (ax_cl (sx_pl vo)).1 / 256 := sx_blt c1
    have c3 : (ax_cl (sx_pl vo)).1 % 256 < 100 := sx_blt c3
    have har : ax_ar (sx_pl vo) = false := by
      unfold ax_ar
      exact sx_ble_e (show ¬ 100 ≤ Nat.mod (ax_cl (sx_pl vo)).1 256 by show ¬ 100 ≤ (ax_cl (sx_pl vo)).1 % 256; omega)
    have j32 : j < 32 := by
      rw [← hjd]
      show sx_slot (Nat.mod (ax_cl (sx_pl vo)).1 256) (sx_wa w) % 32 - 1 < 32
      omega
    rw [hG.md] at c2 ck
    have c2 : ax_tb W.md (ax_bit (ax_ar (sx_pl vo)) (sx_pl vo) j) = true := by rw [har]; exact c2
    have hp := ax_ok_ok c5 C.X.yk hv (fun q => absurd q (by decide)) (Nat.le_refl _) (Nat.le_refl _) (C.X.hs.pk _ j hc c1)
    have hty : sx_if (Nat.beq (Nat.div (sx_slot (Nat.mod (ax_cl (sx_pl vo)).1 256) (sx_wa w)) 32) 0) (Nat.ble (sx_tg v) 1) (sx_if (Nat.beq (Nat.div (sx_slot (Nat.mod (ax_cl (sx_pl vo)).1 256) (sx_wa w)) 32) 1) (sx_and (Nat.beq (sx_tg v) 0) (Nat.ble (sx_pl v) 1)) (Nat.beq (sx_tg v) 2)) = true ∧ v < 4722366482869645213696 := by
      cases t0 : Nat.beq (Nat.div (sx_slot (Nat.mod (ax_cl (sx_pl vo)).1 256) (sx_wa w)) 32) 0 with
      | true =>
        rw [t0, sx_if_t] at c4
        obtain ⟨P, -, rfl⟩ := hv.toInt (sx_ble c4)
        rw [sx_if_t, ax_tg_i]
        exact ⟨rfl, by have := ax_i_lt P; omega⟩
      | false =>
        rw [t0, sx_if_f] at c4
        rw [sx_if_f]
        cases t1 : Nat.beq (Nat.div (sx_slot (Nat.mod (ax_cl (sx_pl vo)).1 256) (sx_wa w)) 32) 1 with
        | true =>
          rw [t1, sx_if_t] at c4
          obtain ⟨P, jv, rfl⟩ := hv.toInt (ax_in_tag c4)
          have b := ax_in_ok c4 C.X.yk jv
          obtain ⟨p, hp1, -, hp⟩ := ax_b_pos (P := P) b.1
          rw [sx_if_t, ax_tg_i, ax_pl_i, hp1, show Nat.ble p 1 = true from Nat.ble_eq.mpr (by omega)]
          exact ⟨rfl, by have := ax_i_lt P; omega⟩
        | false =>
          rw [t1, sx_if_f] at c4
          rw [sx_if_f]
          have c4' : a % 8 = 2 := sx_beq c4
          obtain ⟨k, rfl⟩ := hv.toRef (by omega) (by omega)
          exact ⟨c4, k.2.2.1⟩
    have hvl := hty.2
    refine C.go h4 (fun _ h => h) List.prefix_rfl (cs' := cs) (ss' := ss) (hh' := sx_wr hh (sx_pl vo) ((ax_cl (sx_pl vo)).1, sx_set (sx_rd hh (sx_pl vo)).2 j v)) ?_ C.HL H2 (fun ih => ?_)
    · have hm := ax_wr_mm (lo := j) (hi := j) (hd := (ax_cl (sx_pl vo)).1) C.X.mm C.X.yk hvl hc (Nat.le_refl _) (Nat.le_refl _)
      exact ⟨C.X.yk, C.X.fk, ax_wr_cons hm hc c1 (ax_J_n (by omega)) (fun _ => rfl) (by rw [ax_wr_at hvl]; exact hv), ax_wr_hs C.X.hs hvl hc hp, ax_wr_fr C.X.fr hvl hc c2 ck (Nat.le_refl _) (Nat.le_refl _) (fun _ => rfl) (fun e => by subst e; obtain ⟨P, jP, rfl⟩ := hv.toInt (by decide); exact (jP.i0 rfl).1.symm), C.X.nv, C.X.r1, C.X.r2, C.X.r3, C.X.r4⟩
    · rw [cx_b10 hop]; unfold sx_oPut
      rw [cx_p1, cx_p1, cx_ref ht hc, sx_if_t, C.X.hs.rd hc, sx_fo_eq, c0, sx_if_f, hty.1, sx_if_t, sx_blt_t hvl, sx_if_t, sx_fo_eq, hjd, sx_wrK_eq, sx_fo_eq]
theorem ax_ix_ok {i vi len : Nat} {K : Nat → Nat → Nat → ax_R} (h : ax_ix Y n i len K = some outs) (hY : ax_Yk ρ Y n) (hv : ax_V ρ i vi) : ∃ P i' lo hi j, vi = sx_i P ∧ P.toBitVec.toNat = j ∧ sx_b P = 2147483648 + j ∧ ax_J ρ i' (2147483648 + j) ∧ lo ≤ j ∧ j ≤ hi ∧ hi < len ∧ K i' lo hi = some outs := by
  unfold ax_ix at h
  rcases ax_nm_V h hY hv with ⟨-, P, i', rfl, jj, h1⟩ | ⟨t, h1⟩
  · obtain ⟨lo, hi, h2, b1, b2⟩ := ax_rg_h h1 hY jj
    obtain ⟨c, h3⟩ := ax_if0 h2
    obtain ⟨c1, c2⟩ := sx_and_ok c
    have c1 := sx_ble c1
    have c2 : hi < 2147483648 + len := sx_blt c2
    rw [sx_fo_eq, sx_fo_eq] at h3
    obtain ⟨j, hj1, -, hj⟩ := ax_b_pos (P := P) (by omega)
    exact ⟨P, i', _, _, j, rfl, hj1, hj, by rw [← hj]; exact jj, by show lo - 2147483648 ≤ j; omega, by show j ≤ hi - 2147483648; omega, by show hi - 2147483648 < len; omega, h3⟩
  · have := ax_rg_tag h1
    omega
theorem ax_ord_mono {lo hi j x y z : Nat} (h1 : lo ≤ j) (h2 : j ≤ hi) (hx : sx_nth sx_ordv lo = some x) (hy : sx_nth sx_ordv hi = some y) (hz : sx_nth sx_ordv j = some z) : x ≤ z ∧ z ≤ y := by
  have t : (List.range 9).all (fun hi => (List.range (hi + 1)).all (fun j => (List.range (j + 1)).all (fun lo => decide (sx_ordv.getD lo 0 ≤ sx_ordv.getD j 0 ∧ sx_ordv.getD j 0 ≤ sx_ordv.getD hi 0)))) = true := by decide +kernel
  rw [sx_nth_eq] at hx hy hz
  have l : hi < 9 := (List.getElem?_eq_some_iff.mp hy).1
  have := of_decide_eq_true (List.all_eq_true.mp (List.all_eq_true.mp (List.all_eq_true.mp t hi (List.mem_range.mpr l)) j (List.mem_range.mpr (by omega))) lo (List.mem_range.mpr (by omega)))
  rw [List.getD_eq_getElem?_getD, List.getD_eq_getElem?_getD, List.getD_eq_getElem?_getD, hx, hy, hz] at this
  exact this
theorem ax_ord_lt {j z : Nat} (h : sx_nth sx_ordv j = some z) : z ≤ 40320 := by
  rw [sx_nth_eq] at h
  have hm := List.mem_of_getElem? h
  have t : sx_ordv.all (fun z => decide (z ≤ 40320)) = true := by decide +kernel
  exact of_decide_eq_true (List.all_eq_true.mp t z hm)
theorem ax_i_n {z : Nat} (h : z < 4294967296) : Nat.mul 8 z = sx_i (Int32.ofNat z) := by rw [ax_i_eq, ax_on_tn h]; rfl
theorem ax_b_n {z : Nat} (h : z < 2147483648) : sx_b (Int32.ofNat z) = 2147483648 + z := by rw [ax_b_tn, ax_on_tn (by omega)]; omega
theorem ax_s11 (hG : ax_Gk W g) (C : ax_Cx W ih d D mi cd lst pc w L S M F Y n th ρ outs hh cs ss cL cS Post) (hop : sx_op w = 11) (h : ax_oIald ih g d mi cd lst pc L S M F Y n th = some outs) : cx_G W D mi cd pc cL cS hh cs ss Post := by
  unfold ax_oIald at h
  obtain ⟨i, r1, vi, cr1, e1, f1, g1, hi, H1⟩ := ax_pop h C.HS
  obtain ⟨a, r2, va, cr2, e2, f2, g2, ha, H2⟩ := ax_pop g1 H1
  subst e2 f2 e1 f1
  rcases ax_if g2 with ⟨c, h2⟩ | ⟨c, h2⟩
  · obtain ⟨rfl, hc, ht⟩ := ax_ref2 ha c
    rw [ax_gK_eq] at h2
    obtain ⟨c1, h3⟩ := ax_if0 h2
    obtain ⟨P, i', lo, hiX, j, rfl, p1, p2, p3, p4, p5, p6, h4⟩ := ax_ix_ok h3 C.X.yk hi
    rw [sx_fo_eq] at h4
    have c1' : (ax_cl (sx_pl va)).1 % 256 = 100 := sx_beq c1
    have p6 : hiX < (ax_cl (sx_pl va)).1 / 256 := p6
    have har : ax_ar (sx_pl va) = true := by
      unfold ax_ar
      rw [show Nat.mod (ax_cl (sx_pl va)).1 256 = 100 from c1']; rfl
    have R := ax_ld_ok h4 C.X.yk C.X.mm C.X.hs hc (by omega) p3 (fun q => by rw [har] at q; cases q) p4 p5 (fun _ => c1')
    refine C.red R H2 (fun ih => ?_)
    have na : ¬ va = 13 := fun q => by rw [q] at ht; cases ht
    rw [cx_b11 hop]; unfold sx_oIald
    rw [cx_p1, cx_p1, sx_beq_e na, sx_if_f]
    unfold sx_oAld
    rw [cx_p1, cx_p1, cx_ref ht hc, sx_if_t, cx_ix, C.X.hs.rd hc, c1, p1, sx_blt_t (show j < Nat.div (ax_cl (sx_pl va)).1 256 by show j < (ax_cl (sx_pl va)).1 / 256; omega), cx_at, sx_if_t, sx_fo_eq, sx_fo_eq, sx_beq_t rfl, sx_if_t]
  · rcases ax_if h2 with ⟨c1, h3⟩ | ⟨c1, h3⟩
    · have c1' := sx_beq c1
      subst c1'
      obtain ⟨-, rfl⟩ := ha.toRef (by decide) (by decide)
      obtain ⟨P, i', lo, hiX, j, rfl, p1, p2, p3, p4, p5, p6, h4⟩ := ax_ix_ok h3 C.X.yk hi
      obtain ⟨x, hx, h5⟩ := ax_opt_h h4
      obtain ⟨y, hy, h6⟩ := ax_opt_h h5
      have l9 : j < sx_ordv.length := by show j < 9; omega
      have hz : sx_nth sx_ordv j = some sx_ordv[j] := by rw [sx_nth_eq]; exact List.getElem?_eq_getElem l9
      obtain ⟨m1, m2⟩ := ax_ord_mono p4 p5 hx hy hz
      have zl := ax_ord_lt hz
      have ez := ax_b_n (z := sx_ordv[j]) (by omega)
      refine C.got (P := Int32.ofNat sx_ordv[j]) (ax_fn_plain h6 C.X.yk (by rw [ez]; show 2147483648 + x ≤ _; omega) (by rw [ez]; show _ ≤ 2147483648 + y; omega) (sx_b_lt _)) H2 (fun ih => ?_)
      rw [cx_b11 hop]; unfold sx_oIald
      rw [cx_p1, cx_p1, c1, sx_if_t, cx_ix, p1, hz]
      show sx_fo _ _ = _
      rw [sx_fo_eq, sx_fo_eq, ax_i_n (by omega)]
    · obtain ⟨c2, h4⟩ := ax_if0 h3
      have c2' := sx_beq c2
      subst c2'
      obtain ⟨-, rfl⟩ := ha.toRef (by decide) (by decide)
      rcases ax_nm_V h4 C.X.yk hi with ⟨-, P, i', rfl, jj, h5⟩ | ⟨t, h5⟩
      · obtain ⟨c3, h6⟩ := ax_if0 h5
        obtain ⟨c3, c4⟩ := sx_and_ok c3
        obtain ⟨c4, c5⟩ := sx_and_ok c4
        rw [hG.nv] at c3 c5
        have nv := C.X.nv (sx_beq c3)
        have b := ax_in_ok c4 C.X.yk jj
        have le := ax_le_ok C.X.yk C.X.fk jj nv c5
        obtain ⟨j, j1, -, j2⟩ := ax_b_pos (P := P) b.1
        rw [j2] at jj
        have hjN : j < W.N := by omega
        obtain ⟨Q, e, s1, s2, s3⟩ := C.wk.scr j hjN
        have hb : ∀ ih, sx_body ih W.N w D mi cd [] pc cL (sx_i P :: 5 :: cr2) hh 160 W.sy cs ss = ih D mi cd [] false (Nat.succ pc) cL (sx_i Q :: cr2) hh 160 W.sy cs ss := fun ih => by
          rw [cx_b11 hop]; unfold sx_oIald
          rw [cx_p1, cx_p1, c1, sx_if_f]
          unfold sx_oAld
          rw [cx_p1, cx_p1, show sx_and (Nat.beq (sx_tg 5) 2) (Nat.blt (sx_pl 5) 160) = false from rfl, sx_if_f, show sx_and (Nat.beq 5 5) (Nat.beq 100 100) = true from rfl, sx_if_t, cx_ix, j1, sx_blt_t hjN, sx_if_t]
          unfold sx_nm
          have t1 : sx_tg (Nat.succ (Nat.mul 8 j)) = 1 := by show (8 * j + 1) % 8 = 1; omega
          have t2 : sx_pl (Nat.succ (Nat.mul 8 j)) = j := by show (8 * j + 1) / 8 = j; omega
          rw [t1, sx_beq_t rfl, sx_if_t, t2, sx_nth_eq, s1]
          show sx_if (Nat.beq e.1 e.2.1) _ _ = _
          rw [s2, s3, sx_beq_t rfl, sx_if_t, sx_fo_eq, sx_fo_eq]
          have e8 : Nat.mul 8 (sx_bs (sx_b Q)) = sx_i Q := (ax_i_bs Q).symm
          rw [e8]
        cases hm : ax_mg M 999 i' with
        | some u =>
          rw [hm] at h6
          rcases C.X.mm _ (ax_mg_mem hm) with ⟨-, k, R, e', q1, q2, q3, q4, q5⟩ | ⟨q, -⟩
          · have q2 : ax_J ρ i' (2147483648 + k) := q2
            have := q2.uniq jj
            have ek : k = j := by omega
            subst ek
            cases q3.symm.trans s1
            have eR := sx_b_inj (q4.symm.trans s2)
            subst eR
            exact C.go0 h6 C.HL (ax_Ls.cons q5 H2) hb
          · have q : 999 < 160 := q
            omega
        | none =>
          rw [hm] at h6
          obtain ⟨v, Y', n', a1, a2, a3⟩ := ax_any_ok (r := sx_b Q) h6 C.X.yk (sx_b_lt Q)
          have hp : ρ <+: ρ ++ [sx_b Q] := List.prefix_append _ _
          refine C.go a1 (fun _ h => h) hp ((C.X.mono hp a2).m ?_) (C.HL.mono' hp) (ax_Ls.cons (ax_V.int a3) (H2.mono' hp)) hb
          intro m hm
          rcases List.mem_cons.mp hm with rfl | hm
          · exact Or.inl ⟨rfl, j, Q, e, hjN, jj.mono hp, s1, s2, ax_V.int a3⟩
          · exact C.X.mm.mono hp m hm
      · obtain ⟨c3, -⟩ := ax_if0 h5
        obtain ⟨-, c4⟩ := sx_and_ok c3
        obtain ⟨c4, -⟩ := sx_and_ok c4
        have := ax_in_tag c4
        omega
theorem ax_s12 (hG : ax_Gk W g) (C : ax_Cx W ih d D mi cd lst pc w L S M F Y n th ρ outs hh cs ss cL cS Post) (hop : sx_op w = 12) (h : ax_oIast ih g d mi cd lst pc L S M F Y n th = some outs) : cx_G W D mi cd pc cL cS hh cs ss Post := by
  unfold ax_oIast at h
  obtain ⟨b, r0, v, cr0, e0, f0, g0, hv, H0⟩ := ax_pop h C.HS
  obtain ⟨i, r1, vi, cr1, e1, f1, g1, hi, H1⟩ := ax_pop g0 H0
  obtain ⟨a, r2, va, cr2, e2, f2, g2, ha, H2⟩ := ax_pop g1 H1
  subst e2 f2 e1 f1 e0 f0
  obtain ⟨c, h2⟩ := ax_if0 g2
  obtain ⟨rfl, hc, ht⟩ := ax_ref2 ha c
  rw [ax_gK_eq] at h2
  obtain ⟨c1, h3⟩ := ax_if0 h2
  obtain ⟨P, i', lo, hiX, j, rfl, p1, p2, p3, p4, p5, p6, h4⟩ := ax_ix_ok h3 C.X.yk hi
  rw [sx_fo_eq] at h4
  obtain ⟨c2, h5⟩ := ax_if0 h4
  obtain ⟨c2, c3⟩ := sx_and_ok c2
  obtain ⟨c2, ck⟩ := sx_and_ok c2
  have c1' : (ax_cl (sx_pl va)).1 % 256 = 100 := sx_beq c1
  have p6 : hiX < (ax_cl (sx_pl va)).1 / 256 := p6
  have har : ax_ar (sx_pl va) = true := by
    unfold ax_ar
    rw [show Nat.mod (ax_cl (sx_pl va)).1 256 = 100 from c1']; rfl
  have hj : j < (ax_cl (sx_pl va)).1 / 256 := by omega
  have hp := ax_ok_ok c3 C.X.yk hv (fun _ => p3) p4 p5 (C.X.hs.pk _ j hc hj)
  obtain ⟨Q, rfl, -⟩ := ax_k100 c1' hp
  have hvl : sx_i Q < 4722366482869645213696 := by have := ax_i_lt Q; omega
  have na : ¬ (sx_pl va = 148 ∨ sx_pl va = 3 ∨ sx_pl va = 56) := fun q => by
    rcases q with q | q | q <;> rw [q] at c1' <;> exact absurd c1' (by decide +kernel)
  rw [hG.md] at c2 ck
  have c2 : ax_tb W.md (ax_bit (ax_ar (sx_pl va)) (sx_pl va) j) = true := by rw [har]; exact c2
  have hm := ax_wr_mm (lo := lo) (hi := hiX) (hd := (ax_cl (sx_pl va)).1) C.X.mm C.X.yk hvl hc p4 p5
  refine C.go h5 (fun _ h => h) List.prefix_rfl (cs' := cs) (ss' := ss) (hh' := sx_wr hh (sx_pl va) ((ax_cl (sx_pl va)).1, sx_set (sx_rd hh (sx_pl va)).2 j (sx_i Q))) ?_ C.HL H2 (fun ih => ?_)
  · refine ⟨C.X.yk, C.X.fk, ?_, ax_wr_hs C.X.hs hvl hc hp, ax_wr_fr C.X.fr hvl hc c2 ck p4 p5 (fun q => absurd q na) (fun q => by cases q), C.X.nv, C.X.r1, C.X.r2, C.X.r3, C.X.r4⟩
    cases q : Nat.beq g.2.1 0 with
    | true => exact hm
    | false => exact ax_wr_cons hm hc hj p3 (fun q => by rw [har] at q; cases q) (by rw [ax_wr_at hvl]; exact hv)
  · rw [cx_b12 hop]; unfold sx_oAst
    rw [cx_p1, cx_p1, cx_p1, cx_ref ht hc, sx_if_t, cx_ix, C.X.hs.rd hc, c1, p1, sx_blt_t (show j < Nat.div (ax_cl (sx_pl va)).1 256 from hj), cx_at, sx_if_t, sx_beq_t rfl, sx_if_t, ax_tg_i, show Nat.ble 0 1 = true from rfl, sx_if_t, sx_blt_t hvl, sx_if_t, sx_fo_eq, show Nat.beq 100 101 = false from rfl, sx_if_f, sx_wrK_eq, sx_fo_eq]
theorem ax_s13 (C : ax_Cx W ih d D mi cd lst pc w L S M F Y n th ρ outs hh cs ss cL cS Post) (hop : sx_op w = 13) (h : ax_oLald ih d mi cd lst pc L S M F Y n th = some outs) : cx_G W D mi cd pc cL cS hh cs ss Post := by
  unfold ax_oLald at h
  obtain ⟨i, r1, vi, cr1, e1, f1, g1, hi, H1⟩ := ax_pop h C.HS
  obtain ⟨a, r2, va, cr2, e2, f2, g2, ha, H2⟩ := ax_pop g1 H1
  subst e2 f2 e1 f1
  obtain ⟨c, h2⟩ := ax_if0 g2
  obtain ⟨rfl, hc, ht⟩ := ax_ref2 ha c
  rw [ax_gK_eq] at h2
  obtain ⟨c1, h3⟩ := ax_if0 h2
  obtain ⟨P, i', lo, hiX, j, rfl, p1, p2, p3, p4, p5, p6, h4⟩ := ax_ix_ok h3 C.X.yk hi
  have c1' : (ax_cl (sx_pl va)).1 % 256 = 101 := sx_beq c1
  have p6 : hiX < (ax_cl (sx_pl va)).1 / 256 := p6
  have hj : j < (ax_cl (sx_pl va)).1 / 256 := by omega
  have k := (ax_k101 c1' (C.X.hs.pk _ j hc hj)).1
  have l : sx_get (sx_rd hh (sx_pl va)).2 j < 4722366482869645213696 := sx_get_lt _ _
  refine C.go0 h4 C.HL (ax_Ls.cons (v := sx_get (sx_rd hh (sx_pl va)).2 j + 4) (Or.inr (Or.inr (Or.inr (Or.inr (Or.inl ⟨rfl, by omega, by omega⟩))))) H2) (fun ih => ?_)
  rw [cx_b13 hop]; unfold sx_oAld
  rw [cx_p1, cx_p1, cx_ref ht hc, sx_if_t, cx_ix, C.X.hs.rd hc, c1, p1, sx_blt_t (show j < Nat.div (ax_cl (sx_pl va)).1 256 from hj), cx_at, sx_if_t, sx_fo_eq, sx_fo_eq, show Nat.beq 101 100 = false from rfl, sx_if_f, sx_beq_t rfl, sx_if_t, sx_fo_eq]
theorem gx_101 {c j : Nat} (hc : c < 160) (h : (ax_cl c).1 % 256 = 101) : ax_kp c j j 1 = true := by
  have a1 : c ≠ 149 := fun e => by rw [e] at h; exact absurd h (by decide +kernel)
  unfold ax_kp
  rw [sx_beq_e a1, sx_if_f]
theorem ax_s14 (hG : ax_Gk W g) (C : ax_Cx W ih d D mi cd lst pc w L S M F Y n th ρ outs hh cs ss cL cS Post) (hop : sx_op w = 14) (h : ax_oLast ih g d mi cd lst pc L S M F Y n th = some outs) : cx_G W D mi cd pc cL cS hh cs ss Post := by
  unfold ax_oLast at h
  obtain ⟨b, r0, v, cr0, e0, f0, g0, hv, H0⟩ := ax_pop h C.HS
  obtain ⟨i, r1, vi, cr1, e1, f1, g1, hi, H1⟩ := ax_pop g0 H0
  obtain ⟨a, r2, va, cr2, e2, f2, g2, ha, H2⟩ := ax_pop g1 H1
  subst e2 f2 e1 f1 e0 f0
  obtain ⟨c, h2⟩ := ax_if0 g2
  obtain ⟨cl, c⟩ := sx_and_ok c
  obtain ⟨rfl, hc, ht⟩ := ax_ref2 ha c
  rw [ax_gK_eq] at h2
  obtain ⟨c1, h3⟩ := ax_if0 h2
  obtain ⟨c1, c2⟩ := sx_and_ok c1
  obtain ⟨P, i', lo, hiX, j, rfl, p1, p2, p3, p4, p5, p6, h4⟩ := ax_ix_ok h3 C.X.yk hi
  have c1' : (ax_cl (sx_pl va)).1 % 256 = 101 := sx_beq c1
  have p6 : hiX < (ax_cl (sx_pl va)).1 / 256 := p6
  have hj : j < (ax_cl (sx_pl va)).1 / 256 := by omega
  obtain ⟨l1, l2⟩ := hv.lg cl
  have hp := (ax_k101 c1' (C.X.hs.pk _ j hc hj)).2 (v - 4) (by omega)
  have hvl : v - 4 < 4722366482869645213696 := by omega
  have har : ax_ar (sx_pl va) = true := by
    unfold ax_ar
    rw [show Nat.mod (ax_cl (sx_pl va)).1 256 = 101 from c1']; rfl
  rw [hG.md] at c2
  have c2 : ax_tb W.md (ax_bit (ax_ar (sx_pl va)) (sx_pl va) j) = true := by rw [har]; exact c2
  refine C.go h4 (fun _ h => h) List.prefix_rfl (cs' := cs) (ss' := ss) (hh' := sx_wr hh (sx_pl va) ((ax_cl (sx_pl va)).1, sx_set (sx_rd hh (sx_pl va)).2 j (v - 4))) ?_ C.HL H2 (fun ih => ?_)
  · have ck : ax_kg W.md (sx_pl va) j j 1 = true := by
      unfold ax_kg
      rw [gx_101 hc c1']
      cases Nat.beq (Nat.mod (Nat.shiftRight W.md 5120) 2) 1 <;> rfl
    refine ⟨C.X.yk, C.X.fk, ?_, ax_wr_hs C.X.hs hvl hc hp, ax_wr_fr C.X.fr hvl hc c2 ck (Nat.le_refl _) (Nat.le_refl _) (fun _ => rfl) (fun q => by cases q), C.X.nv, C.X.r1, C.X.r2, C.X.r3, C.X.r4⟩
    exact ax_wr_mm (lo := lo) (hi := hiX) (hd := (ax_cl (sx_pl va)).1) C.X.mm C.X.yk hvl hc p4 p5
  · rw [cx_b14 hop]; unfold sx_oAst
    rw [cx_p1, cx_p1, cx_p1, cx_ref ht hc, sx_if_t, cx_ix, C.X.hs.rd hc, c1, p1, sx_blt_t (show j < Nat.div (ax_cl (sx_pl va)).1 256 from hj), cx_at, sx_if_t, show Nat.beq 101 100 = false from rfl, sx_if_f, sx_beq_t rfl, sx_if_t, sx_beq_t (show sx_tg v = 4 from l1), sx_if_t, sx_blt_t l2, sx_if_t, sx_fo_eq, sx_if_t, sx_wrK_eq, sx_fo_eq]
    rfl
end AXS3
end
section
/-! ax: more steps on cells, and tables of targets -/
theorem ax_tk4_ok : (List.range 256).all (fun c => decide ((ax_cl c).1 / 256 < 2147483648)) = true := by decide +kernel
theorem ax_tk4_at (c : Nat) : (ax_cl c).1 / 256 < 2147483648 := by
  have h := of_decide_eq_true (List.all_eq_true.mp ax_tk4_ok (c % 256) (List.mem_range.mpr (Nat.mod_lt _ (by decide))))
  rw [ax_cl_mod]
  exact h
theorem ax_se_eq : ∀ {a b : List ax_S}, ax_se a b = true → a = b
  | [], [], _ => rfl
  | [], _ :: _, h => by cases h
  | _ :: _, [], h => by cases h
  | x :: a, y :: b, h => by
    have h : sx_and (sx_and (Nat.beq x.1 y.1) (sx_and (Nat.beq x.2.1 y.2.1) (sx_and (Nat.beq x.2.2.1 y.2.2.1) (sx_and (Nat.beq x.2.2.2.1 y.2.2.2.1) (sx_and (Nat.beq x.2.2.2.2.1 y.2.2.2.2.1) (Nat.beq x.2.2.2.2.2 y.2.2.2.2.2)))))) (ax_se a b) = true := h
    obtain ⟨h1, h2⟩ := sx_and_ok h
    obtain ⟨k1, h1⟩ := sx_and_ok h1
    obtain ⟨k2, h1⟩ := sx_and_ok h1
    obtain ⟨k3, h1⟩ := sx_and_ok h1
    obtain ⟨k4, h1⟩ := sx_and_ok h1
    obtain ⟨k5, k6⟩ := sx_and_ok h1
    rw [ax_se_eq h2]
    obtain ⟨x1, x2, x3, x4, x5, x6⟩ := x
    obtain ⟨y1, y2, y3, y4, y5, y6⟩ := y
    have m1 : x1 = y1 := sx_beq k1
    have m2 : x2 = y2 := sx_beq k2
    have m3 : x3 = y3 := sx_beq k3
    have m4 : x4 = y4 := sx_beq k4
    have m5 : x5 = y5 := sx_beq k5
    have m6 : x6 = y6 := sx_beq k6
    rw [m1, m2, m3, m4, m5, m6]
section AXS4
variable {W : ax_W} {ih : ax_ih} {g : ax_G} {d D mi cd : Nat} {lst : List ax_I} {pc w : Nat} {L S : List Nat} {M : ax_M} {F : ax_F} {Y : ax_Y} {n th : Nat} {ρ : List Nat} {outs : List ax_O} {hh : sx_H} {cs ss : Nat} {cL cS : List Nat} {Post : sx_O → Prop}
theorem ax_s15 (C : ax_Cx W ih d D mi cd lst pc w L S M F Y n th ρ outs hh cs ss cL cS Post) (hop : sx_op w = 15) (h : ax_oAald ih d mi cd lst pc L S M F Y n th = some outs) : cx_G W D mi cd pc cL cS hh cs ss Post := by
  unfold ax_oAald at h
  obtain ⟨i, r1, vi, cr1, e1, f1, g1, hi, H1⟩ := ax_pop h C.HS
  obtain ⟨a, r2, va, cr2, e2, f2, g2, ha, H2⟩ := ax_pop g1 H1
  subst e2 f2 e1 f1
  obtain ⟨c, h2⟩ := ax_if0 g2
  obtain ⟨rfl, hc, ht⟩ := ax_ref2 ha c
  rw [ax_gK_eq] at h2
  obtain ⟨c1, h3⟩ := ax_if0 h2
  have c1' : (ax_cl (sx_pl va)).1 % 256 = 102 := sx_beq c1
  obtain ⟨P, jj, rfl⟩ := hi.toInt (ax_rg_tag h3)
  obtain ⟨Y', o', h4, hs, hY'⟩ := ax_en_ok h3 C.X.yk jj
  obtain ⟨c2, h5⟩ := ax_if0 h4
  obtain ⟨c2, c3⟩ := sx_and_ok c2
  have c2 := sx_ble c2
  have c3 : sx_b P < 2147483648 + (ax_cl (sx_pl va)).1 / 256 := sx_blt c3
  obtain ⟨j, j1, -, j2⟩ := ax_b_pos (P := P) c2
  rw [sx_fo_eq, show Nat.sub (sx_b P) 2147483648 = j by show sx_b P - 2147483648 = j; omega] at h5
  obtain ⟨s, hsg, h6⟩ := ax_opt_h h5
  obtain ⟨c4, h7⟩ := ax_if0 h6
  obtain ⟨c4, c5⟩ := sx_and_ok c4
  have c4 := sx_beq c4
  have hj : j < (ax_cl (sx_pl va)).1 / 256 := by omega
  obtain ⟨s', k1, k2⟩ := C.X.hs.pk _ j hc hj
  have es := Option.some.inj (k1.symm.trans hsg)
  subst es
  have kv : sx_get (sx_rd hh (sx_pl va)).2 j = s'.2.2.1 ∧ ax_Rk s'.2.2.1 := by
    rcases k2 with ⟨k, -⟩ | ⟨-, k⟩ | ⟨k, -⟩ | ⟨k, -⟩ | ⟨k, -⟩
    · omega
    · exact k
    all_goals omega
  have c5 : s'.2.2.1 % 8 = 2 := sx_beq c5
  refine C.go h7 hs List.prefix_rfl (C.X.yf hY' C.X.fk) C.HL (ax_Ls.cons (ax_V.ref kv.2) H2) (fun ih => ?_)
  rw [cx_b15 hop]; unfold sx_oAld
  rw [cx_p1, cx_p1, cx_ref ht hc, sx_if_t, cx_ix, C.X.hs.rd hc, c1, j1, sx_blt_t (show j < Nat.div (ax_cl (sx_pl va)).1 256 from hj), cx_at, sx_if_t, sx_fo_eq, sx_fo_eq, show Nat.beq 102 100 = false from rfl, sx_if_f, show Nat.beq 102 101 = false from rfl, sx_if_f, kv.1, sx_beq_e (show ¬ s'.2.2.1 = 0 by omega), sx_if_f]
theorem ax_s17 (hG : ax_Gk W g) (C : ax_Cx W ih d D mi cd lst pc w L S M F Y n th ρ outs hh cs ss cL cS Post) (hop : sx_op w = 17) (h : ax_oAlen ih g d mi cd lst pc L S M F Y n th = some outs) : cx_G W D mi cd pc cL cS hh cs ss Post := by
  unfold ax_oAlen at h
  obtain ⟨a, r, va, cr, e1, f1, h1, ha, H⟩ := ax_pop h C.HS
  subst e1 f1
  rcases ax_if h1 with ⟨c, h2⟩ | ⟨c, h2⟩
  · obtain ⟨rfl, hc, ht⟩ := ax_ref2 ha c
    rw [ax_gK_eq] at h2
    obtain ⟨c1, h3⟩ := ax_if0 h2
    obtain ⟨c1, c2⟩ := sx_and_ok c1
    have c2 : (ax_cl (sx_pl va)).1 < 1099511627776 := sx_blt c2
    rw [sx_fo_eq, ax_i_n (show Nat.div (ax_cl (sx_pl va)).1 256 < 4294967296 by show (ax_cl (sx_pl va)).1 / 256 < _; omega)] at h3
    refine C.go0 h3 C.HL (ax_Ls.cons (ax_V.int (ax_J.i _)) H) (fun ih => ?_)
    have nb : sx_isB va = false := by unfold sx_isB; rw [ht]; rfl
    rw [cx_b17 hop]; unfold sx_oAlenX
    rw [cx_p1, nb, sx_if_f]
    unfold sx_oAlen
    rw [cx_p1, sx_beq_e (show ¬ va = 5 from fun q => by rw [q] at ht; cases ht), sx_if_f, cx_ref ht hc, sx_if_t, C.X.hs.rd hc, c1, sx_if_t, sx_fo_eq, sx_fo_eq, ax_i_n (show Nat.div (ax_cl (sx_pl va)).1 256 < 4294967296 by show (ax_cl (sx_pl va)).1 / 256 < _; omega)]
  · rcases ax_if h2 with ⟨c1, h3⟩ | ⟨c1, h3⟩
    · obtain ⟨t, ht, h4⟩ := ax_opt_h h3
      obtain ⟨c2, h5⟩ := ax_if0 h4
      have c2 : t.length < 4294967296 := sx_blt c2
      rw [sx_fo_eq, ax_i_n c2] at h5
      obtain ⟨ca, -⟩ := sx_and_ok c1
      have ca : a % 8 = 5 := sx_beq ca
      obtain ⟨-, rfl⟩ := ha.toRef (by omega) (by omega)
      refine C.go0 h5 C.HL (ax_Ls.cons (ax_V.int (ax_J.i _)) H) (fun ih => ?_)
      rw [cx_b17 hop]; unfold sx_oAlenX
      rw [cx_p1, c1, sx_if_t, ht]
      show sx_fo _ _ = _
      rw [sx_fo_eq, sx_fo_eq, ax_i_n c2]
    · obtain ⟨c2, h4⟩ := ax_if0 h3
      obtain ⟨c2, c3⟩ := sx_and_ok c2
      have c2' := sx_beq c2
      subst c2'
      obtain ⟨-, rfl⟩ := ha.toRef (by decide) (by decide)
      rw [hG.nv] at c3 h4
      have nv := C.X.nv (sx_beq c3)
      rw [← ax_b_n C.wk.nN] at nv
      refine C.go0 h4 C.HL (ax_Ls.cons (ax_V.int nv) H) (fun ih => ?_)
      rw [cx_b17 hop]; unfold sx_oAlenX
      rw [cx_p1, c1, sx_if_f]
      unfold sx_oAlen
      rw [cx_p1, sx_beq_t rfl, sx_if_t, sx_fo_eq, ax_i_n (by have := C.wk.nN; omega)]
theorem ax_s25 (hG : ax_Gk W g) (C : ax_Cx W ih d D mi cd lst pc w L S M F Y n th ρ outs hh cs ss cL cS Post) (hop : sx_op w = 25) (h : ax_oCpy ih g d mi cd lst pc L S M F Y n th = some outs) : cx_G W D mi cd pc cL cS hh cs ss Post := by
  unfold ax_oCpy at h
  obtain ⟨ln, r0, vl, cr0, e0, f0, g0, hl, H0⟩ := ax_pop h C.HS
  obtain ⟨dp, r1, vd, cr1, e1, f1, g1, hd, H1⟩ := ax_pop g0 H0
  obtain ⟨b, r2, vb, cr2, e2, f2, g2, hb, H2⟩ := ax_pop g1 H1
  obtain ⟨sp, r3, vs, cr3, e3, f3, g3, hsp, H3⟩ := ax_pop g2 H2
  obtain ⟨a, r4, va, cr4, e4, f4, g4, ha, H4⟩ := ax_pop g3 H3
  subst e4 f4 e3 f3 e2 f2 e1 f1 e0 f0
  obtain ⟨c, h1⟩ := ax_if0 g4
  obtain ⟨x1, c2⟩ := sx_and_ok c
  obtain ⟨x2, x3⟩ := sx_and_ok x1
  obtain ⟨x4, x5⟩ := sx_and_ok x3
  obtain ⟨ca, cb⟩ := sx_and_ok c2
  have c3 := sx_beq x4
  have c4 := sx_beq x5
  subst c3 c4
  obtain ⟨rfl, hca, hta⟩ := ax_ref2 ha ca
  obtain ⟨rfl, hcb, htb⟩ := ax_ref2 hb cb
  rw [ax_gK_eq, ax_gK_eq] at h1
  obtain ⟨k, h2⟩ := ax_if0 h1
  obtain ⟨k1, k2⟩ := sx_and_ok k
  obtain ⟨k1, k3⟩ := sx_and_ok k1
  obtain ⟨k2, k4⟩ := sx_and_ok k2
  obtain ⟨k5, k6⟩ := sx_and_ok k2
  obtain ⟨k4, k7⟩ := sx_and_ok k4
  obtain ⟨k7, k8⟩ := sx_and_ok k7
  have k3' : (ax_cl (sx_pl va)).1 = (ax_cl (sx_pl vb)).1 := sx_beq k3
  have k5 : (ax_cl (sx_pl va)).2.1 = (ax_cl (sx_pl vb)).2.1 := sx_beq k5
  have k6 := ax_se_eq k6
  have k4' := sx_beq k4
  have zero : ∀ {v : Nat}, ax_V ρ 0 v → v = 0 := fun hv => by
    obtain ⟨P, jP, rfl⟩ := hv.toInt (by decide)
    exact (jP.i0 rfl).1.symm
  have vd0 := zero hd
  have vs0 := zero hsp
  subst vd0 vs0
  have l31 := ax_tk4_at (sx_pl va)
  have vle : vl = Nat.mul 8 (Nat.div (ax_cl (sx_pl va)).1 256) := by
    have t : ln % 8 = 0 := by rw [k4']; show 8 * ((ax_cl (sx_pl va)).1 / 256) % 8 = 0; omega
    obtain ⟨P, jP, rfl⟩ := hl.toInt (by omega)
    rw [← k4']
    exact (jP.i0 t).1.symm
  rw [sx_fo_eq] at h2
  have har : ax_ar (sx_pl vb) = true := by
    unfold ax_ar
    rw [← k3', show Nat.mod (ax_cl (sx_pl va)).1 256 = 100 from sx_beq k1]; rfl
  rw [hG.md] at k7 k8
  have rdn : ∀ {c' : Nat}, c' < 160 → c' ≠ sx_pl vb → sx_rd (sx_wr hh (sx_pl vb) ((ax_cl (sx_pl vb)).1, (sx_rd hh (sx_pl va)).2)) c' = sx_rd hh c' := fun h' e => sx_rd_wr_ne hh _ (by omega) (by omega) e
  refine C.go h2 (fun _ h => h) List.prefix_rfl (cs' := cs) (ss' := ss) (hh' := sx_wr hh (sx_pl vb) ((ax_cl (sx_pl vb)).1, (sx_rd hh (sx_pl va)).2)) ?_ C.HL H4 (fun ih => ?_)
  · refine ⟨C.X.yk, C.X.fk, ?_, ⟨fun c' h' => ?_, fun c' j' h' hj' => ?_⟩, ?_, C.X.nv, C.X.r1, C.X.r2, C.X.r3, C.X.r4⟩
    · intro m hm
      obtain ⟨m1, m2⟩ := ax_mf_ok C.X.yk hm
      rcases C.X.mm m m1 with q | ⟨q1, j', q2, q3, q4, q5⟩
      · exact Or.inl q
      · refine Or.inr ⟨q1, j', q2, q3, q4, ?_⟩
        by_cases e : m.1 = sx_pl vb
        · have := m2 e _ q3
          have := q3.1
          omega
        · rw [rdn q1 e]; exact q5
    · by_cases e : c' = sx_pl vb
      · rw [e, sx_rd_wr]
      · rw [rdn h' e]; exact C.X.hs.hd c' h'
    · by_cases e : c' = sx_pl vb
      · rw [e] at hj'
        rw [e, sx_rd_wr]
        obtain ⟨s, s1, s2⟩ := C.X.hs.pk (sx_pl va) j' hca (by rw [k3']; exact hj')
        exact ⟨s, by rw [← k5, ← k6]; exact s1, s2⟩
      · rw [rdn h' e]; exact C.X.hs.pk c' j' h' hj'
    · refine ⟨fun c' j' h' hj' hn => ?_, fun hg j' hj' => ?_⟩
      · by_cases e : c' = sx_pl vb
        · subst e
          rw [har] at hn
          have : ax_tb W.md (ax_bit true (sx_pl vb) j') = true := k7
          rw [this] at hn
          cases hn
        · rw [rdn h' e]; exact C.X.fr.1 c' j' h' hj' hn
      · unfold ax_kg at k8
        rw [show Nat.beq (Nat.mod (Nat.shiftRight W.md 5120) 2) 1 = false from hg, sx_if_f] at k8
        have nb : 149 ≠ sx_pl vb := fun e => by
          rw [← e] at k8
          have := ax_kp_ok k8
          omega
        rw [rdn (by decide) nb]
        exact C.X.fr.2 hg j' hj'
  · rw [cx_b25 hop]; unfold sx_oCpy
    rw [cx_p1, cx_p1, cx_p1, cx_p1, cx_p1, show Nat.ble (List.length cr4) 40 = true by rw [H4.len]; exact x2, cx_ref hta hca, cx_ref htb hcb, show sx_and (sx_and true (sx_and (Nat.beq 0 0) (Nat.beq 0 0))) (sx_and true true) = true from rfl, sx_if_t, C.X.hs.rd hca, C.X.hs.rd hcb, k1, k3, sx_blt_t (show Nat.div (ax_cl (sx_pl va)).1 256 < 2147483648 from l31), vle, sx_beq_t (rfl : Nat.mul 8 (Nat.div (ax_cl (sx_pl va)).1 256) = Nat.mul 8 (Nat.div (ax_cl (sx_pl va)).1 256)), show sx_and (sx_and true true) (sx_and true true) = true from rfl, sx_if_t, sx_wrK_eq, sx_fo_eq]
theorem ax_s37 (C : ax_Cx W ih d D mi cd lst pc w L S M F Y n th ρ outs hh cs ss cL cS Post) (hop : sx_op w = 37) (h : ax_oSw ih w d mi cd lst L S M F Y n th = some outs) : cx_G W D mi cd pc cL cS hh cs ss Post := by
  unfold ax_oSw at h
  obtain ⟨a, r, v, cr, e1, f1, h1, hv, H⟩ := ax_pop h C.HS
  subst e1 f1
  obtain ⟨q, hq, h2⟩ := ax_opt_h h1
  rcases ax_nm_V h2 C.X.yk hv with ⟨-, P, a', rfl, jj, h3⟩ | ⟨t, h3⟩
  · have hb : ∀ ih, sx_body ih W.N w D mi cd [] pc cL (sx_i P :: cr) hh 160 W.sy cs ss = ih D mi cd [] false (sx_tg1 q (sx_b P)) cL cr hh 160 W.sy cs ss := fun ih => by
      rw [cx_b37 hop]; unfold sx_oSw
      rw [cx_p1, hq]
      show sx_nm _ _ _ = _
      rw [cx_nm, ax_tg_i, sx_beq_t rfl, sx_if_t, ax_bs_pl, sx_fo_eq]
    rcases ax_if h3 with ⟨c, h4⟩ | ⟨c, h4⟩
    · have c : a' % 8 = 0 := sx_beq c
      have e := (jj.i0 c).1
      rw [e, ax_bs_pl] at h4
      exact C.go0 h4 C.HL H hb
    · obtain ⟨c1, h5⟩ := ax_if0 h4
      obtain ⟨lo, hi, h6, b1, b2⟩ := ax_rg_h h5 C.X.yk jj
      obtain ⟨o1, o2, a1, a2, rfl⟩ := ax_app_ok h6
      obtain ⟨o3, o4, a3, a4, rfl⟩ := ax_app_ok a2
      have go : ∀ {p : Nat} {Y' : ax_Y} {o' : List ax_O}, ax_on ih d mi cd lst th p L r M F Y' n = some o' → (∀ o ∈ o', o ∈ o1 ++ (o3 ++ o4)) → ax_Yk ρ Y' n → p = sx_tg1 q (sx_b P) → cx_G W D mi cd pc cL (sx_i P :: cr) hh cs ss Post := by
        intro p Y' o' k1 k2 k3 k4
        subst k4
        exact C.go k1 k2 List.prefix_rfl (C.X.yf k3 C.X.fk) C.HL H hb
      by_cases d1 : sx_b P < q.2.1
      · rw [sx_beq_e (show ¬ q.2.1 = 0 by omega), sx_if_f] at a1
        obtain ⟨Y', k1, k2⟩ := ax_rv_ok a1 C.X.yk jj b1 (by show sx_b P ≤ q.2.1 - 1; omega)
        refine go k1 (fun o ho => List.mem_append_left _ ho) k2 ?_
        unfold sx_tg1
        rw [sx_ble_e (by omega), sx_if_f]
      · by_cases d2 : q.2.1 + q.2.2.1.length ≤ sx_b P
        · obtain ⟨Y', k1, k2⟩ := ax_rv_ok a3 C.X.yk jj (by exact d2) b2
          refine go k1 (fun o ho => List.mem_append_right _ (List.mem_append_left _ ho)) k2 ?_
          unfold sx_tg1
          rw [show Nat.ble q.2.1 (sx_b P) = true from Nat.ble_eq.mpr (by omega), sx_if_t, sx_nth_eq, List.getElem?_eq_none (by show q.2.2.1.length ≤ sx_b P - q.2.1; omega)]
        · obtain ⟨o', k0, ks⟩ := ax_en_aux (i := sx_b P - q.2.1) a4 (by omega)
          rw [sx_fo_eq, show Nat.add q.2.1 (sx_b P - q.2.1) = sx_b P by show q.2.1 + (sx_b P - q.2.1) = sx_b P; omega] at k0
          obtain ⟨Y', k1, k2⟩ := ax_rv_ok k0 C.X.yk jj (Nat.le_refl _) (Nat.le_refl _)
          exact go k1 (fun o ho => List.mem_append_right _ (List.mem_append_right _ (ks o ho))) k2 rfl
  · rcases ax_if h3 with ⟨c, -⟩ | ⟨c, h4⟩
    · have c : a % 8 = 0 := sx_beq c
      omega
    · obtain ⟨c, -⟩ := ax_if0 h4
      have c : a % 8 = 1 := sx_beq c
      omega
end AXS4
end
section
/-! ax: behind a call -/
theorem ax_tb_eq (m i : Nat) : ax_tb m i = m.testBit i := by
  unfold ax_tb
  rw [Nat.testBit_eq_decide_div_mod_eq]
  by_cases h : m / 2 ^ i % 2 = 1
  · rw [decide_eq_true h, sx_beq_t (show Nat.mod (Nat.shiftRight m i) 2 = 1 by show m >>> i % 2 = 1; rw [Nat.shiftRight_eq_div_pow]; exact h)]
  · rw [decide_eq_false h, sx_beq_e (show ¬ Nat.mod (Nat.shiftRight m i) 2 = 1 by show ¬ m >>> i % 2 = 1; rw [Nat.shiftRight_eq_div_pow]; exact h)]
theorem ax_tb_sub {a b i : Nat} (h : Nat.land a b = a) (hb : ax_tb b i = false) : ax_tb a i = false := by
  have h : a &&& b = a := h
  rw [ax_tb_eq] at hb ⊢
  rw [← h, Nat.testBit_and, hb, Bool.and_false]
/-- the rest of the run behind a call's end co -/
def cx_K (W : ax_W) (D mi cd pc : Nat) (L rest : List Nat) (hid : Nat) (co : sx_O) (Post : sx_O → Prop) : Prop := ∃ o, (∃ f0, ∀ f, f0 ≤ f → sx_cont (sx_run W.N f) D mi cd [] pc L rest hid [co] = some [o]) ∧ Post o
theorem cx_call {W : ax_W} {D D' mi mj cd cj pc w hid : Nat} {L S rest Lj : List Nat} {hh : sx_H} {cs ss : Nat} {Post : sx_O → Prop} (hw : sx_ft cd pc = w) (hh0 : sx_wh w = 0)
    (hb : ∀ ih, sx_body ih W.N w D mi cd [] pc L S hh 160 W.sy cs ss = Option.rec none (fun outs => sx_cont ih D mi cd [] pc L rest hid outs) (ih D' mj cj [] false 0 Lj [] hh 160 W.sy cs ss))
    (g : cx_G W D' mj cj 0 Lj [] hh cs ss (fun co => cx_K W D mi cd pc L rest hid co Post)) : cx_G W D mi cd pc L S hh cs ss Post := by
  obtain ⟨co, ⟨f1, h1⟩, o, ⟨f2, h2⟩, hP⟩ := g
  refine ⟨o, cx_one hw hh0 hb ⟨f1 + f2, fun f hf => ?_⟩, hP⟩
  rw [h1 f (by omega)]
  exact h2 f (by omega)
section AXC
variable {W : ax_W} {ih : ax_ih} {g : ax_G} {d D mi cd : Nat} {lst : List ax_I} {pc w : Nat} {L S : List Nat} {M : ax_M} {F : ax_F} {Y : ax_Y} {n th : Nat} {ρ : List Nat} {outs : List ax_O} {hh : sx_H} {cs ss : Nat} {cL cS : List Nat} {Post : sx_O → Prop}
/-- what goes on behind one end -/
noncomputable def ax_cn1 (ih : ax_ih) (d mi cd : Nat) (lst : List ax_I) (pc : Nat) (L rest : List Nat) (hid : Nat) (o : ax_O) : ax_R :=
  sx_if (Nat.beq o.1 0) (ax_on ih d mi cd lst o.2.2.2.2.2.2 (Nat.add pc 3) L rest o.2.2.1 o.2.2.2.1 o.2.2.2.2.1 o.2.2.2.2.2.1)
    (sx_if (Nat.beq o.1 1) (ax_on ih d mi cd lst o.2.2.2.2.2.2 (Nat.add pc 3) L (o.2.1 :: rest) o.2.2.1 o.2.2.2.1 o.2.2.2.2.1 o.2.2.2.2.2.1) (ax_thr ih d mi cd lst pc L hid (Nat.sub o.1 2) o.2.2.1 o.2.2.2.1 o.2.2.2.2.1 o.2.2.2.2.2.1 o.2.2.2.2.2.2))
theorem ax_cont_mem {rest : List Nat} {hid : Nat} {ao : ax_O} : ∀ {os outs : List ax_O}, ax_cont ih d mi cd lst pc L rest hid os = some outs → ao ∈ os → ∃ o', ax_cn1 ih d mi cd lst pc L rest hid ao = some o' ∧ ∀ o ∈ o', o ∈ outs
  | [], _, _, hm => by cases hm
  | q :: os, outs, h, hm => by
    have h : ax_app (ax_cn1 ih d mi cd lst pc L rest hid q) (ax_cont ih d mi cd lst pc L rest hid os) = some outs := h
    obtain ⟨o1, o2, a1, a2, rfl⟩ := ax_app_ok h
    rcases List.mem_cons.mp hm with rfl | hm
    · exact ⟨o1, a1, fun o ho => List.mem_append_left _ ho⟩
    · obtain ⟨o', b1, b2⟩ := ax_cont_mem a2 hm
      exact ⟨o', b1, fun o ho => List.mem_append_right _ (b2 o ho)⟩
theorem cx_app1 (r : sx_R) (o : sx_O) (h : r = some [o]) : sx_app r (some []) = some [o] := by rw [h]; rfl
theorem ax_cont_ok (wk : ax_Wk W) (ok : ax_Ok W ih) (dd : d ≤ D) (HL : ax_Ls ρ L cL) {rest crest : List Nat} (HR : ax_Ls ρ rest crest) (Pq : ax_Pq W ρ outs Post) (Hq : ax_Hq W D mi cd ρ lst Post) {hid : Nat} {ao : ax_O} {o' : List ax_O} (h : ax_cn1 ih d mi cd lst pc L rest hid ao = some o') (hs : ∀ o ∈ o', o ∈ outs) {ρ' : List Nat} {co : sx_O} (hp : ρ <+: ρ') (hO : ax_Or W ρ' ao co) : cx_K W D mi cd pc cL crest hid co Post := by
  obtain ⟨akd, av, aM, aF, aY, an, ath⟩ := ao
  obtain ⟨kd, cv, ch, cn, csy, ccs, css⟩ := co
  obtain ⟨k1, k2, k3, k4, X⟩ := hO
  have k1 : kd = akd := k1
  have k3 : cn = 160 := k3
  have k4 : csy = W.sy := k4
  subst k1 k3 k4
  have go : ∀ {p : Nat} {L' S' cL' cS' : List Nat} {o1 : List ax_O}, ax_on ih d mi cd lst ath p L' S' aM aF aY an = some o1 → (∀ o ∈ o1, o ∈ outs) → ax_Ls ρ' L' cL' → ax_Ls ρ' S' cS' → (∀ ih : sx_ih, sx_cont ih D mi cd [] pc cL crest hid [(kd, cv, ch, 160, W.sy, ccs, css)] = sx_app (ih D mi cd [] false p cL' cS' ch 160 W.sy ccs css) (some [])) → cx_K W D mi cd pc cL crest hid (kd, cv, ch, 160, W.sy, ccs, css) Post := by
    intro p L' S' cL' cS' o1 q1 q2 q3 q4 q5
    obtain ⟨o, ⟨f0, hf⟩, ho⟩ := ax_go ok dd Pq Hq q1 q2 hp X q3 q4
    exact ⟨o, ⟨f0, fun f hle => by rw [q5]; exact cx_app1 _ _ (hf f hle)⟩, ho⟩
  rcases ax_if h with ⟨c0, h1⟩ | ⟨c0, h1⟩
  · refine go h1 hs (HL.mono' hp) (HR.mono' hp) (fun ih => ?_)
    show sx_app (sx_if (Nat.beq kd 0) _ _) (some []) = _
    rw [show Nat.beq kd 0 = true from c0, sx_if_t, sx_fo_eq]
  · rcases ax_if h1 with ⟨c1, h2⟩ | ⟨c1, h2⟩
    · refine go h2 hs (HL.mono' hp) (ax_Ls.cons (k2 (sx_beq c1)) (HR.mono' hp)) (fun ih => ?_)
      show sx_app (sx_if (Nat.beq kd 0) _ _) (some []) = _
      rw [show Nat.beq kd 0 = false from c0, sx_if_f, show Nat.beq kd 1 = true from c1, sx_if_t, sx_fo_eq]
    · have c0' : ¬ kd = 0 := sx_beq_f c0
      have c1' : ¬ kd = 1 := sx_beq_f c1
      have hcont : ∀ ih : sx_ih, sx_cont ih D mi cd [] pc cL crest hid [(kd, cv, ch, 160, W.sy, ccs, css)] = sx_app (sx_thr ih D mi cd [] pc cL hid (Nat.sub kd 2) ch 160 W.sy ccs css) (some []) := fun ih => by
        show sx_app (sx_if (Nat.beq kd 0) _ _) (some []) = _
        rw [show Nat.beq kd 0 = false from c0, sx_if_f, show Nat.beq kd 1 = false from c1, sx_if_f]
      have h2 : ax_thr ih d mi cd lst pc L hid (Nat.sub kd 2) aM aF aY an ath = some o' := h2
      unfold ax_thr at h2
      rcases ax_if h2 with ⟨c2, h3⟩ | ⟨c2, h3⟩
      · cases h3
        refine ⟨(Nat.add 2 (Nat.sub kd 2), 0, ch, 160, W.sy, ccs, css), ⟨0, fun f _ => ?_⟩, Pq _ (hs _ List.mem_cons_self) ρ' _ hp ⟨rfl, fun q => ?_, rfl, rfl, X⟩⟩
        · rw [hcont]
          apply cx_app1
          unfold sx_thr
          rw [c2, sx_if_t]
        · have q : 2 + (kd - 2) = 1 := q
          omega
      · obtain ⟨hs', hh', h4⟩ := ax_opt_h h3
        rw [sx_fo_eq] at h4
        rcases ax_if h4 with ⟨-, h5⟩ | ⟨c3, h5⟩
        · cases h5
        · rw [sx_fo_eq] at h5
          obtain ⟨c4, h6⟩ := ax_if0 h5
          obtain ⟨d1, d2⟩ := sx_and_ok c4
          obtain ⟨d2, d3⟩ := sx_and_ok d2
          obtain ⟨d3, d4⟩ := sx_and_ok d3
          rw [sx_stK_eq] at h6
          refine go h6 hs ((HL.mono' hp).set ax_V.seven _) ax_Ls.nil (fun ih => ?_)
          rw [hcont]
          unfold sx_thr
          rw [c2, sx_if_f, hh']
          show sx_app (sx_fo _ _) _ = _
          rw [sx_fo_eq, c3, sx_if_f, sx_fo_eq, d1, d2, ax_pv_ok HL d3, HL.len, d4, cx_at, cx_at, cx_at, sx_if_t, sx_fo_eq, sx_stK_eq]
theorem ax_tk_ok : ∀ (m : Nat) {S cS acc cacc : List Nat} {K : List Nat → List Nat → ax_R}, ax_tk m S acc K = some outs → ax_Ls ρ S cS → ax_Ls ρ acc cacc → ∃ av rest cav crest, K av rest = some outs ∧ ax_Ls ρ av cav ∧ ax_Ls ρ rest crest ∧ ∀ K' : List Nat → List Nat → sx_R, sx_tk m cS cacc K' = K' cav crest
  | 0, S, cS, acc, cacc, K, h, HS, HA => ⟨acc, S, cacc, cS, h, HA, HS, fun _ => rfl⟩
  | m + 1, [], cS, acc, cacc, K, h, HS, HA => by cases h
  | m + 1, a :: S, cS, acc, cacc, K, h, HS, HA => by
    obtain ⟨v, r, rfl, hv, H⟩ := HS.c
    obtain ⟨av, rest, cav, crest, h1, h2, h3, h4⟩ := ax_tk_ok m (S := S) (cS := r) (acc := a :: acc) (cacc := v :: cacc) h H (ax_Ls.cons hv HA)
    exact ⟨av, rest, cav, crest, h1, h2, h3, fun K' => h4 K'⟩
theorem ax_pd_ok : ∀ m : Nat, ax_Ls ρ (sx_pd m) (sx_pd m)
  | 0 => ax_Ls.nil
  | m + 1 => ax_Ls.cons ax_V.seven (ax_pd_ok m)
theorem ax_map_h {α β : Type} {f : α → β} {o : Option α} {b : β} (h : Option.map f o = some b) : ∃ a, o = some a ∧ f a = b := by
  cases o with
  | none => cases h
  | some a => exact ⟨a, rfl, Option.some.inj h⟩
theorem ax_xp_ok : ∀ {av cav : List Nat} {m : Nat} {Lj : List Nat}, ax_xp av m = some Lj → ax_Ls ρ av cav → ∃ cLj, sx_xp cav m = some cLj ∧ ax_Ls ρ Lj cLj
  | [], [], m, Lj, h, _ => by
    cases h
    exact ⟨sx_pd m, rfl, ax_pd_ok m⟩
  | [], _ :: _, _, _, _, H => H.elim
  | _ :: _, [], _, _, _, H => H.elim
  | a :: av, v :: cav, 0, Lj, h, H => by cases h
  | a :: av, v :: cav, m + 1, Lj, h, H => by
    have h : sx_if (ax_lg a) (Nat.rec none (fun n2 _ => Option.map (fun t => a :: 7 :: t) (ax_xp av n2)) m) (sx_if (ax_nl a) (Option.map (fun t => a :: t) (ax_xp av m)) none) = some Lj := h
    have hb : sx_xp (v :: cav) (m + 1) = sx_if (Nat.beq (sx_tg v) 4) (Nat.rec none (fun n2 _ => Option.map (fun t => v :: 7 :: t) (sx_xp cav n2)) m) (Option.map (fun t => v :: t) (sx_xp cav m)) := rfl
    rw [hb]
    cases c : ax_lg a with
    | true =>
      rw [c, sx_if_t] at h
      rw [sx_beq_t (show sx_tg v = 4 from (H.1.lg c).1), sx_if_t]
      cases m with
      | zero => cases h
      | succ m2 =>
        obtain ⟨t, h1, h2⟩ := ax_map_h h
        obtain ⟨ct, k1, k2⟩ := ax_xp_ok h1 H.2
        refine ⟨v :: 7 :: ct, ?_, ?_⟩
        · show Option.map (fun t => v :: 7 :: t) (sx_xp cav m2) = _
          rw [k1]; rfl
        · rw [← h2]
          exact ax_Ls.cons H.1 (ax_Ls.cons ax_V.seven k2)
    | false =>
      rw [c, sx_if_f] at h
      cases c2 : ax_nl a with
      | false => rw [c2, sx_if_f] at h; cases h
      | true =>
        rw [c2, sx_if_t] at h
        rw [sx_beq_e (show ¬ sx_tg v = 4 from H.1.nl c2), sx_if_f]
        obtain ⟨t, h1, h2⟩ := ax_map_h h
        obtain ⟨ct, k1, k2⟩ := ax_xp_ok h1 H.2
        refine ⟨v :: ct, by rw [k1]; rfl, ?_⟩
        rw [← h2]
        exact ax_Ls.cons H.1 k2
end AXC
end
section
/-! ax: contracts -/
def ax_Aq (q : Nat × Nat × Nat) (v : Nat) : Prop := (q.1 = 0 ∧ ∃ ρ, ax_V ρ q.2.1 v) ∨ (q.1 ≠ 0 ∧ q.1 = 2 ∧ v % 8 = 4 ∧ v < 4722366482869645213696) ∨ (q.1 ≠ 0 ∧ q.1 ≠ 2 ∧ ∃ P, v = sx_i P ∧ q.2.1 ≤ sx_b P ∧ sx_b P ≤ q.2.2)
def ax_As : List (Nat × Nat × Nat) → List Nat → Prop
  | [], [] => True
  | q :: as, v :: cav => ax_Aq q v ∧ ax_As as cav
  | _, _ => False
def ax_Ps (ps : List (Nat × Nat × Nat × Nat)) (h : sx_H) : Prop := ∀ q ∈ ps, q.1 < 160 ∧ q.2.1 < (ax_cl q.1).1 / 256 ∧ ∃ P, sx_get (sx_rd h q.1).2 q.2.1 = sx_i P ∧ q.2.2.1 ≤ sx_b P ∧ sx_b P ≤ q.2.2.2
/-- an end against the contract's end t, entered with h0, cs0, ss0 -/
def ax_Eq (md fn : Nat) (cav : List Nat) (h0 : sx_H) (cs0 ss0 : Nat) (t : ax_T) (co : sx_O) : Prop :=
  co.1 = t.1 % 16 ∧ (t.2.1 = 1 → ∃ P, co.2.1 = sx_i P ∧ t.2.2.1 ≤ sx_b P ∧ sx_b P ≤ t.2.2.2.1 ∧ (fn = 1 → ∃ A, sx_ln cav 0 = sx_i A ∧ P.toBitVec.toNat = ax_pc A.toBitVec.toNat)) ∧ (t.2.1 = 2 → co.2.1 % 8 = 4 ∧ co.2.1 < 4722366482869645213696) ∧
  co.2.2.2.2.2.1 ≤ cs0 + t.1 / 16 ∧ co.2.2.2.2.2.2 ≤ ss0 + 6 * (t.1 / 16) ∧ co.2.2.2.2.2.1 ≤ cs0 + 1 ∧ co.2.2.2.2.2.2 ≤ ss0 + 6 ∧ ax_Hs co.2.2.1 ∧ ax_Fr h0 md co.2.2.1 ∧
  ∀ q ∈ t.2.2.2.2, q.1 < 160 ∧ q.2.1 < (ax_cl q.1).1 / 256 ∧ ∃ P, sx_get (sx_rd co.2.2.1 q.1).2 q.2.1 = sx_i P ∧ q.2.2.1 ≤ sx_b P ∧ sx_b P ≤ q.2.2.2.1 ∧ (q.2.2.2.2 ≠ 0 → ∃ O, sx_get (sx_rd h0 q.1).2 q.2.1 = sx_i O ∧ sx_b O + (q.2.2.2.2 - 1) ≤ sx_b P)
def ax_Valid (N : Nat) (sy : sx_Y) (c : ax_C) : Prop := ∀ D cav h cs ss Lj, c.2.1 ≤ D → ax_As c.2.2.1 cav → ax_Ps c.2.2.2.1 h → ax_Hs h → cs < 600002 → ss + 6 ≤ 7302232 → sx_xp cav (sx_im (sx_mt c.1).2) = some Lj →
  ∃ co, (∃ f0, ∀ f, f0 ≤ f → sx_run N f D c.1 (sx_mt c.1).1 [] false 0 Lj [] h 160 sy cs ss = some [co]) ∧ co.2.2.2.1 = 160 ∧ co.2.2.2.2.1 = sy ∧ ∃ t ∈ c.2.2.2.2.2.2, ax_Eq c.2.2.2.2.1 c.2.2.2.2.2.1 cav h cs ss t co
section AXCon
variable {W : ax_W} {ih : ax_ih} {g : ax_G} {d D mi cd : Nat} {lst : List ax_I} {pc w : Nat} {L S : List Nat} {M : ax_M} {F : ax_F} {Y : ax_Y} {n th : Nat} {ρ : List Nat} {outs : List ax_O} {hh : sx_H} {cs ss : Nat} {cL cS : List Nat} {Post : sx_O → Prop}
theorem ax_am_ok (hY : ax_Yk ρ Y n) : ∀ {as : List (Nat × Nat × Nat)} {av cav : List Nat}, ax_am Y n as av = true → ax_Ls ρ av cav → ax_As as cav
  | [], [], [], _, _ => True.intro
  | [], [], _ :: _, _, H => H.elim
  | [], _ :: _, _, h, _ => by cases h
  | _ :: _, [], _, h, _ => by cases h
  | _ :: _, _ :: _, [], _, H => H.elim
  | q :: as, a :: av, v :: cav, h, H => by
    have h : sx_and (sx_if (Nat.beq q.1 0) (Nat.beq a q.2.1) (sx_if (Nat.beq q.1 2) (ax_lg a) (ax_in Y n a q.2.1 q.2.2))) (ax_am Y n as av) = true := h
    obtain ⟨h1, h2⟩ := sx_and_ok h
    refine ⟨?_, ax_am_ok hY h2 H.2⟩
    cases c0 : Nat.beq q.1 0 with
    | true =>
      rw [c0, sx_if_t] at h1
      have e := sx_beq h1
      subst e
      exact Or.inl ⟨sx_beq c0, ρ, H.1⟩
    | false =>
      rw [c0, sx_if_f] at h1
      cases c2 : Nat.beq q.1 2 with
      | true =>
        rw [c2, sx_if_t] at h1
        exact Or.inr (Or.inl ⟨sx_beq_f c0, sx_beq c2, H.1.lg h1⟩)
      | false =>
        rw [c2, sx_if_f] at h1
        obtain ⟨P, j, e⟩ := H.1.toInt (ax_in_tag h1)
        exact Or.inr (Or.inr ⟨sx_beq_f c0, sx_beq_f c2, P, e, ax_in_ok h1 hY j⟩)
theorem ax_key {k j : Nat} (h : ax_J ρ (Nat.mul 8 k) (2147483648 + j)) : j = k := by
  have h : ax_J ρ (8 * k) (2147483648 + j) := h
  obtain ⟨h1, h2⟩ := h.t0 (by omega)
  rw [Nat.mul_div_cancel_left _ (by decide), ax_bs_eq] at h1
  have := h.1
  omega
theorem ax_Mk.pl (hM : ax_Mk W ρ M hh) {c k v : Nat} (hc : c < 160) (h : ax_mg M c (Nat.mul 8 k) = some v) : k < (ax_cl c).1 / 256 ∧ ax_V ρ v (sx_get (sx_rd hh c).2 k) := by
  rcases hM _ (ax_mg_mem h) with ⟨q, -⟩ | ⟨-, j, q1, q2, -, q3⟩
  · have q : c = 999 := q
    omega
  · have e := ax_key q2
    subst e
    exact ⟨q1, q3⟩
theorem ax_pm_ok (hY : ax_Yk ρ Y n) (hM : ax_Mk W ρ M hh) : ∀ {ps : List (Nat × Nat × Nat × Nat)}, ax_pm M Y n ps = true → ax_Ps ps hh
  | [], _ => fun q hq => by cases hq
  | p :: ps, h => fun q hq => by
    have h : sx_and (sx_and (Nat.blt p.1 160) (Option.rec false (fun v => ax_in Y n v p.2.2.1 p.2.2.2) (ax_mg M p.1 (Nat.mul 8 p.2.1)))) (ax_pm M Y n ps) = true := h
    obtain ⟨h1, h2⟩ := sx_and_ok h
    obtain ⟨h0, h1⟩ := sx_and_ok h1
    have h0 : p.1 < 160 := sx_blt h0
    rcases List.mem_cons.mp hq with rfl | hq
    · cases hm : ax_mg M q.1 (Nat.mul 8 q.2.1) with
      | none => rw [hm] at h1; cases h1
      | some v =>
        rw [hm] at h1
        have h1 : ax_in Y n v q.2.2.1 q.2.2.2 = true := h1
        obtain ⟨k1, k2⟩ := hM.pl h0 hm
        obtain ⟨P, j, e⟩ := k2.toInt (ax_in_tag h1)
        exact ⟨h0, k1, P, e, ax_in_ok h1 hY j⟩
    · exact ax_pm_ok hY hM h2 q hq
theorem ax_dr_mem {md : Nat} : ∀ {M : ax_M} {m : Nat × Nat × Nat}, m ∈ ax_dr md M → m ∈ M ∧ (m.1 = 999 ∨ ax_tb md (ax_bit (ax_ar m.1) m.1 (sx_pl m.2.1)) = false)
  | [], m, h => by cases h
  | q :: M, m, h => by
    have h : m ∈ sx_if (Nat.beq q.1 999) (q :: ax_dr md M) (ax_gK ax_gt q.1 (fun hd _ _ => sx_if (ax_tb md (ax_bit (Nat.ble 100 (Nat.mod hd 256)) q.1 (sx_pl q.2.1))) (ax_dr md M) (q :: ax_dr md M))) := h
    rw [ax_gK_eq] at h
    have back : m ∈ ax_dr md M → m ∈ q :: M ∧ (m.1 = 999 ∨ ax_tb md (ax_bit (ax_ar m.1) m.1 (sx_pl m.2.1)) = false) := fun h => ⟨List.mem_cons_of_mem _ (ax_dr_mem h).1, (ax_dr_mem h).2⟩
    cases c : Nat.beq q.1 999 with
    | true =>
      rw [c, sx_if_t] at h
      rcases List.mem_cons.mp h with rfl | h
      · exact ⟨List.mem_cons_self, Or.inl (sx_beq c)⟩
      · exact back h
    | false =>
      rw [c, sx_if_f] at h
      cases t : ax_tb md (ax_bit (Nat.ble 100 (Nat.mod (ax_cl q.1).1 256)) q.1 (sx_pl q.2.1)) with
      | true => rw [t, sx_if_t] at h; exact back h
      | false =>
        rw [t, sx_if_f] at h
        rcases List.mem_cons.mp h with rfl | h
        · exact ⟨List.mem_cons_self, Or.inr t⟩
        · exact back h
theorem ax_dr_ok {md : Nat} {h' : sx_H} (hM : ax_Mk W ρ M hh) (hf : ax_Fr hh md h') : ax_Mk W ρ (ax_dr md M) h' := fun m hm => by
  obtain ⟨m1, m2⟩ := ax_dr_mem hm
  rcases hM m m1 with q | ⟨q1, j, q2, q3, q4, q5⟩
  · exact Or.inl q
  · refine Or.inr ⟨q1, j, q2, q3, q4, ?_⟩
    have m2 : ax_tb md (ax_bit (ax_ar m.1) m.1 (sx_pl m.2.1)) = false := m2.resolve_left (by omega)
    have eb : ax_bit (ax_ar m.1) m.1 (sx_pl m.2.1) = ax_bit (ax_ar m.1) m.1 j := by
      cases ha : ax_ar m.1 with
      | true => rfl
      | false =>
        rw [q4 ha, show sx_pl (8 * j) = j from Nat.mul_div_cancel_left _ (by decide)]
    rw [eb] at m2
    rw [hf.1 m.1 j q1 q2 m2]
    exact q5
/-- the places of an end -/
theorem ax_ps_ok {h0 h1 : sx_H} {M0 : ax_M} (hM0 : ax_Mk W ρ M0 h0) : ∀ {ps : List ax_P} {ρ' : List Nat} {M : ax_M} {Y : ax_Y} {n : Nat} {K : ax_M → ax_Y → Nat → ax_R}, ax_ps M0 ps M Y n K = some outs → ρ <+: ρ' → ax_Yk ρ' Y n → ax_Mk W ρ' M h1 →
    (∀ q ∈ ps, q.1 < 160 ∧ q.2.1 < (ax_cl q.1).1 / 256 ∧ ∃ P, sx_get (sx_rd h1 q.1).2 q.2.1 = sx_i P ∧ q.2.2.1 ≤ sx_b P ∧ sx_b P ≤ q.2.2.2.1 ∧ (q.2.2.2.2 ≠ 0 → ∃ O, sx_get (sx_rd h0 q.1).2 q.2.1 = sx_i O ∧ sx_b O + (q.2.2.2.2 - 1) ≤ sx_b P)) →
    ∃ ρ'' M' Y' n', K M' Y' n' = some outs ∧ ρ' <+: ρ'' ∧ ax_Yk ρ'' Y' n' ∧ ax_Mk W ρ'' M' h1
  | [], ρ', M, Y, n, K, h, hp, hY, hM, _ => ⟨ρ', M, Y, n, h, List.prefix_rfl, hY, hM⟩
  | q :: ps, ρ', M, Y, n, K, h, hp, hY, hM, hq => by
    obtain ⟨c1, c2, P, e, b1, b2, b3⟩ := hq q List.mem_cons_self
    have h : ax_fr Y n q.2.2.1 q.2.2.2.1 (sx_if (Nat.beq q.2.2.2.2 0) 0 (Option.rec 0 (fun v => sx_if (Nat.beq (sx_tg v) 1) (Nat.succ (Nat.add v (Nat.mul 524288 (Nat.pred q.2.2.2.2)))) 0) (ax_mg M0 q.1 (Nat.mul 8 q.2.1)))) 0 0 0
      (fun v Y n => sx_fo (Nat.mul 8 q.2.1) (fun key => ax_ps M0 ps ((q.1, key, v) :: M) Y n K)) = some outs := h
    have hge : ∀ G, G = sx_if (Nat.beq q.2.2.2.2 0) 0 (Option.rec 0 (fun v => sx_if (Nat.beq (sx_tg v) 1) (Nat.succ (Nat.add v (Nat.mul 524288 (Nat.pred q.2.2.2.2)))) 0) (ax_mg M0 q.1 (Nat.mul 8 q.2.1))) → (G - 1) % 8 = 1 → ∃ z, ax_J ρ' (G - 1) z ∧ z ≤ sx_b P := by
      intro G eG hG
      cases c0 : Nat.beq q.2.2.2.2 0 with
      | true => rw [c0, sx_if_t] at eG; rw [eG] at hG; cases hG
      | false =>
        rw [c0, sx_if_f] at eG
        cases hm : ax_mg M0 q.1 (Nat.mul 8 q.2.1) with
        | none =>
          rw [hm] at eG
          have eG : G = 0 := eG
          rw [eG] at hG; cases hG
        | some v =>
          rw [hm] at eG
          have eG : G = sx_if (Nat.beq (sx_tg v) 1) (Nat.succ (Nat.add v (Nat.mul 524288 (Nat.pred q.2.2.2.2)))) 0 := eG
          cases ct : Nat.beq (sx_tg v) 1 with
          | false => rw [ct, sx_if_f] at eG; rw [eG] at hG; cases hG
          | true =>
            rw [ct, sx_if_t] at eG
            have eG : G = v + 524288 * (q.2.2.2.2 - 1) + 1 := eG
            have ct : v % 8 = 1 := sx_beq ct
            obtain ⟨O, o1, o2⟩ := b3 (sx_beq_f c0)
            have hv := (hM0.pl c1 hm).2
            obtain ⟨P0, j0, e0⟩ := hv.toInt (by omega)
            rw [o1] at e0
            have e0 : P0 = O := by
              have t1 := (sx_i_ok P0).2
              rw [← e0, (sx_i_ok O).2] at t1
              exact t1.symm
            subst e0
            have j0 := j0.mono hp
            obtain ⟨r, r1, r2⟩ := j0.t1 ct
            have lp := sx_b_lt P
            refine ⟨sx_b P0 + (q.2.2.2.2 - 1), ⟨by omega, Or.inr ⟨hG, r, ?_, ?_⟩⟩, o2⟩
            · rw [show ax_k (G - 1) = ax_k v by rw [ax_k_eq, ax_k_eq, eG]; omega]; exact r1
            · rw [ax_o_eq] at r2 ⊢
              rw [eG]
              omega
    obtain ⟨v, k1, k2, k3⟩ := ax_fr_ok (r := sx_b P) h hY ⟨⟨b1, b2⟩, sx_b_lt P, hge _ rfl, fun q => by simp at q, fun q => by simp at q, fun q => by simp at q, fun q => by simp at q, fun q => by simp at q, fun q => by simp at q⟩
    rw [sx_fo_eq] at k1
    have hp2 : ρ' <+: ρ' ++ [sx_b P] := List.prefix_append _ _
    have l31 := ax_tk4_at q.1
    have hM2 : ax_Mk W (ρ' ++ [sx_b P]) ((q.1, Nat.mul 8 q.2.1, v) :: M) h1 := ax_wr_cons (hM.mono hp2) c1 c2 (ax_J_n (by omega)) (fun _ => rfl) (by rw [e]; exact ax_V.int k3)
    obtain ⟨ρ'', M', Y', n', m1, m2, m3, m4⟩ := ax_ps_ok hM0 k1 (hp.trans hp2) k2 hM2 (fun q hq' => hq q (List.mem_cons_of_mem _ hq'))
    exact ⟨ρ'', M', Y', n', m1, hp2.trans m2, m3, m4⟩
/-- one of the ends of a contract -/
noncomputable def ax_to1 (F : ax_F) (Y : ax_Y) (n th fn a0 : Nat) (M0 M : ax_M) (q : ax_T) : ax_R :=
  sx_fo (Nat.add th (Nat.div q.1 16)) (fun th => sx_fo (Nat.mod q.1 16) (fun kd => sx_if (Nat.beq q.2.1 1) (ax_fn Y n q.2.2.1 q.2.2.2.1 (sx_if (Nat.beq fn 1) 4 0) a0 0 (fun v Y n => ax_ps M0 q.2.2.2.2 M Y n (fun M Y n => some [(kd, v, M, F, Y, n, th)])))
    (ax_ps M0 q.2.2.2.2 M Y n (fun M Y n => some [(kd, sx_if (Nat.beq q.2.1 2) 23 39, M, F, Y, n, th)]))))
theorem ax_to_mem {fn a0 : Nat} {M0 M : ax_M} {t : ax_T} : ∀ {ts : List ax_T} {outs : List ax_O}, ax_to F Y n th fn a0 M0 M ts = some outs → t ∈ ts → ∃ o', ax_to1 F Y n th fn a0 M0 M t = some o' ∧ ∀ o ∈ o', o ∈ outs
  | [], _, _, hm => by cases hm
  | q :: ts, outs, h, hm => by
    have h : ax_app (ax_to1 F Y n th fn a0 M0 M q) (ax_to F Y n th fn a0 M0 M ts) = some outs := h
    obtain ⟨o1, o2, a1, a2, rfl⟩ := ax_app_ok h
    rcases List.mem_cons.mp hm with rfl | hm
    · exact ⟨o1, a1, fun o ho => List.mem_append_left _ ho⟩
    · obtain ⟨o', b1, b2⟩ := ax_to_mem a2 hm
      exact ⟨o', b1, fun o ho => List.mem_append_right _ (b2 o ho)⟩
theorem ax_to1_ok {fn a0 md : Nat} {cav : List Nat} {t : ax_T} {co : sx_O} (wk : ax_Wk W) (X : ax_X W ρ M F Y n th hh cs ss) (h : ax_to1 F Y n th fn a0 M (ax_dr md M) t = some outs) (hmd : Nat.land md W.md = md) (hth : th < W.lim) (h160 : co.2.2.2.1 = 160) (hsy : co.2.2.2.2.1 = W.sy) (E : ax_Eq md fn cav hh cs ss t co)
    (hA : fn = 1 → ∀ A, sx_ln cav 0 = sx_i A → ax_J ρ a0 (sx_b A) ∧ 2147483648 ≤ sx_b A ∧ sx_b A < 2147483904) : ∃ ao ∈ outs, ∃ ρ', ρ <+: ρ' ∧ ax_Or W ρ' ao co := by
  obtain ⟨E1, E2, E3, E4, E5, E6, E7, E8, E9, E10⟩ := E
  unfold ax_to1 at h
  rw [sx_fo_eq, sx_fo_eq] at h
  have r1 := X.r1
  have r2 := X.r2
  have hX : ∀ {ρ' : List Nat} {M' : ax_M} {Y' : ax_Y} {n' : Nat}, ρ <+: ρ' → ax_Yk ρ' Y' n' → ax_Mk W ρ' M' co.2.2.1 → ax_X W ρ' M' F Y' n' (Nat.add th (Nat.div t.1 16)) co.2.2.1 co.2.2.2.2.2.1 co.2.2.2.2.2.2 := by
    intro ρ' M' Y' n' hp hY hM
    refine ⟨hY, X.fk.mono hp, hM, E8, ⟨fun c j hc hj hb => ?_, fun hg j' hj' => (E9.2 (ax_tb_sub hmd hg) j' hj').trans (X.fr.2 hg j' hj')⟩, fun q => (X.nv q).mono hp, ?_, ?_, ?_, ?_⟩
    · rw [E9.1 c j hc hj (ax_tb_sub hmd hb)]
      exact X.fr.1 c j hc hj hb
    · show _ ≤ W.cb + (th + t.1 / 16)
      omega
    · show _ ≤ W.sb + 6 * (th + t.1 / 16)
      omega
    · omega
    · omega
  have hM1 : ax_Mk W ρ (ax_dr md M) co.2.2.1 := ax_dr_ok X.mm E9
  rcases ax_if h with ⟨c, h1⟩ | ⟨c, h1⟩
  · obtain ⟨P, e, b1, b2, b3⟩ := E2 (sx_beq c)
    have G : ax_Got ρ outs (fun v Y n => ax_ps M t.2.2.2.2 (ax_dr md M) Y n (fun M Y n => some [(Nat.mod t.1 16, v, M, F, Y, n, Nat.add th (Nat.div t.1 16))])) (sx_b P) := by
      cases cf : Nat.beq fn 1 with
      | false =>
        rw [cf, sx_if_f] at h1
        exact ax_fn_ok h1 X.yk ⟨⟨b1, b2⟩, sx_b_lt P, fun q => by simp at q, fun q => by simp at q, fun q => by simp at q, fun q => by simp at q, fun q => by simp at q, fun q => by simp at q, fun q => by simp at q⟩ (fun _ _ _ q => absurd rfl q)
      | true =>
        rw [cf, sx_if_t] at h1
        obtain ⟨A, a1, a2⟩ := b3 (sx_beq cf)
        obtain ⟨j1, j2, j3⟩ := hA (sx_beq cf) A a1
        obtain ⟨x, x1, -, x2⟩ := ax_b_pos (P := A) j2
        have pc8 : ax_pc x ≤ 8 := by unfold ax_pc; omega
        have key : sx_b P = 2147483648 + ax_pc (sx_b A - 2147483648) := by
          rw [x1] at a2
          rw [show sx_b A - 2147483648 = x by omega, ax_b_nat (by omega), a2]
        refine ax_fn_ok h1 X.yk ⟨⟨b1, b2⟩, sx_b_lt P, fun q => by simp at q, fun q => by simp at q, fun q => by simp at q, fun q => by simp at q, fun _ => ⟨_, j1, j2, j3, key⟩, fun q => by simp at q, fun q => by simp at q⟩ ?_
        intro r' e' hE _ q1 q2 _
        obtain ⟨y, y1, y2, y3, y4⟩ := hE.2.2.2.2.2.2.1 q1
        rw [q2] at y1
        have := y1.uniq j1
        subst this
        rw [y4, key]
    obtain ⟨ρ', v, Y', n', o', g1, g2, g3, g4, g5⟩ := G
    obtain ⟨ρ'', M', Y'', n'', m1, m2, m3, m4⟩ := ax_ps_ok X.mm g1 g3 g4 (hM1.mono g3) E10
    cases m1
    refine ⟨_, g2 _ List.mem_cons_self, ρ'', g3.trans m2, E1, fun _ => ?_, h160, hsy, hX (g3.trans m2) m3 m4⟩
    rw [e]
    exact ax_V.int (g5.mono m2)
  · obtain ⟨ρ'', M', Y'', n'', m1, m2, m3, m4⟩ := ax_ps_ok X.mm h1 List.prefix_rfl X.yk hM1 E10
    cases m1
    refine ⟨_, List.mem_cons_self, ρ'', m2, E1, fun _ => ?_, h160, hsy, hX m2 m3 m4⟩
    cases c2 : Nat.beq t.2.1 2 with
    | true =>
      obtain ⟨l1, l2⟩ := E3 (sx_beq c2)
      exact Or.inr (Or.inr (Or.inr (Or.inr (Or.inl ⟨rfl, l1, l2⟩))))
    | false => exact Or.inr (Or.inr (Or.inr (Or.inr (Or.inr (Or.inr rfl)))))
end AXCon
end
