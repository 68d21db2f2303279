/-! ax: where a run stands, concrete and abstract -/
/-- the script's length, the script, the cells at the entry, what may be written, cells and places made before, throws at most, the length's value -/
abbrev ax_W : Type := Nat × sx_Y × sx_H × Nat × Nat × Nat × Nat × Nat
abbrev ax_W.N (W : ax_W) : Nat := W.1
abbrev ax_W.sy (W : ax_W) : sx_Y := W.2.1
abbrev ax_W.h0 (W : ax_W) : sx_H := W.2.2.1
abbrev ax_W.md (W : ax_W) : Nat := W.2.2.2.1
abbrev ax_W.cb (W : ax_W) : Nat := W.2.2.2.2.1
abbrev ax_W.sb (W : ax_W) : Nat := W.2.2.2.2.2.1
abbrev ax_W.lim (W : ax_W) : Nat := W.2.2.2.2.2.2.1
abbrev ax_W.nv (W : ax_W) : Nat := W.2.2.2.2.2.2.2
def ax_Wk (W : ax_W) : Prop := W.N < 2147483648 ∧ (∀ i, i < W.N → ∃ P e, W.sy[i]? = some e ∧ e.1 = sx_b P ∧ e.2.1 = sx_b P) ∧ W.cb + W.lim ≤ 600002 ∧ W.sb + 6 * W.lim ≤ 7302232
theorem ax_Wk.nN {W : ax_W} (h : ax_Wk W) : W.N < 2147483648 := h.1
theorem ax_Wk.scr {W : ax_W} (h : ax_Wk W) : ∀ i, i < W.N → ∃ P e, W.sy[i]? = some e ∧ e.1 = sx_b P ∧ e.2.1 = sx_b P := h.2.1
theorem ax_Wk.rm1 {W : ax_W} (h : ax_Wk W) : W.cb + W.lim ≤ 600002 := h.2.2.1
theorem ax_Wk.rm2 {W : ax_W} (h : ax_Wk W) : W.sb + 6 * W.lim ≤ 7302232 := h.2.2.2
/-- the concrete run ends in o -/
def cx_Ev (W : ax_W) (D mi cd pc : Nat) (L S : List Nat) (h : sx_H) (cs ss : Nat) (o : sx_O) : Prop := ∃ f0, ∀ f, f0 ≤ f → sx_run W.N f D mi cd [] false pc L S h 160 W.sy cs ss = some [o]
def cx_G (W : ax_W) (D mi cd pc : Nat) (L S : List Nat) (h : sx_H) (cs ss : Nat) (Post : sx_O → Prop) : Prop := ∃ o, cx_Ev W D mi cd pc L S h cs ss o ∧ Post o
section CX
variable {W : ax_W} {D mi cd pc pc' w : Nat} {L S L' S' : List Nat} {h h' : sx_H} {cs ss cs' ss' : Nat} {Post : sx_O → Prop}
theorem cx_run_eq (N f D mi cd pc : Nat) (L S : List Nat) (h : sx_H) (n : Nat) (sy : sx_Y) (cs ss : Nat) : sx_run N (f + 1) D mi cd [] false pc L S h n sy cs ss = sx_step (sx_run N f) N D mi cd [] pc L S h n sy cs ss false := rfl
theorem cx_one {F : sx_ih → sx_R} {o : sx_O} (hw : sx_ft cd pc = w) (hh : sx_wh w = 0) (hb : ∀ ih, sx_body ih W.N w D mi cd [] pc L S h 160 W.sy cs ss = F ih) (hF : ∃ f0, ∀ f, f0 ≤ f → F (sx_run W.N f) = some [o]) : cx_Ev W D mi cd pc L S h cs ss o := by
  obtain ⟨f0, hf⟩ := hF
  refine ⟨f0 + 1, fun f hle => ?_⟩
  obtain ⟨f', rfl⟩ : ∃ f', f = f' + 1 := ⟨f - 1, by omega⟩
  rw [cx_run_eq]
  unfold sx_step
  rw [sx_fo_eq, hw, sx_if_f, sx_beq_t hh, sx_if_t, hb]
  exact hf f' (by omega)
theorem cx_step (hw : sx_ft cd pc = w) (hh : sx_wh w = 0) (g : cx_G W D mi cd pc' L' S' h' cs' ss' Post) (hb : ∀ ih, sx_body ih W.N w D mi cd [] pc L S h 160 W.sy cs ss = ih D mi cd [] false pc' L' S' h' 160 W.sy cs' ss') : cx_G W D mi cd pc L S h cs ss Post := by
  obtain ⟨o, ⟨f0, hf⟩, ho⟩ := g
  exact ⟨o, cx_one hw hh hb ⟨f0, hf⟩, ho⟩
theorem cx_end {o : sx_O} (hw : sx_ft cd pc = w) (hh : sx_wh w = 0) (ho : Post o) (hb : ∀ ih, sx_body ih W.N w D mi cd [] pc L S h 160 W.sy cs ss = some [o]) : cx_G W D mi cd pc L S h cs ss Post := ⟨o, cx_one hw hh hb ⟨0, fun _ _ => rfl⟩, ho⟩
end CX
/-! values -/
/-- a reference that is what it says -/
def ax_Rk (v : Nat) : Prop := 2 ≤ v % 8 ∧ v % 8 ≤ 6 ∧ v < 4722366482869645213696 ∧ (v % 8 = 2 → v / 8 < 160)
def ax_V (ρ : List Nat) (a v : Nat) : Prop :=
  (a % 8 ≤ 1 ∧ ∃ P, ax_J ρ a (sx_b P) ∧ v = sx_i P) ∨ (ax_Rk a ∧ v = a) ∨ (a = 7 ∧ v % 8 ≠ 4) ∨ (a = 15 ∧ v = 15) ∨ (a = 23 ∧ v % 8 = 4 ∧ v < 4722366482869645213696) ∨ (a = 31 ∧ v % 8 = 4 ∧ v < 4722366482869645213696 ∧ v / 8 % 18446744073709551616 ≠ 0) ∨ a = 39
section AXV
variable {ρ ρ' : List Nat} {a v : Nat} {P : Int32}
theorem ax_V.mono (h : ax_V ρ a v) (hp : ρ <+: ρ') : ax_V ρ' a v := by
  rcases h with ⟨h1, P, h2, h3⟩ | h
  · exact Or.inl ⟨h1, P, h2.mono hp, h3⟩
  · exact Or.inr h
theorem ax_V.int (h : ax_J ρ a (sx_b P)) : ax_V ρ a (sx_i P) := Or.inl ⟨by have := h.tag; omega, P, h, rfl⟩
theorem ax_V.toInt (h : ax_V ρ a v) (t : a % 8 ≤ 1) : ∃ P, ax_J ρ a (sx_b P) ∧ v = sx_i P := by
  rcases h with ⟨-, h⟩ | ⟨⟨h, -⟩, -⟩ | ⟨h, -⟩ | ⟨h, -⟩ | ⟨h, -⟩ | ⟨h, -⟩ | h
  · exact h
  all_goals omega
theorem ax_V.toRef (h : ax_V ρ a v) (t1 : 2 ≤ a % 8) (t2 : a % 8 ≤ 6) : ax_Rk a ∧ v = a := by
  rcases h with ⟨h, -⟩ | h | ⟨h, -⟩ | ⟨h, -⟩ | ⟨h, -⟩ | ⟨h, -⟩ | h
  · omega
  · exact h
  all_goals omega
theorem ax_V.ref (h : ax_Rk a) : ax_V ρ a a := Or.inr (Or.inl ⟨h, rfl⟩)
theorem ax_i_t (P : Int32) : sx_i P % 8 = 0 := (sx_i_ok P).1
theorem ax_V.lg (h : ax_V ρ a v) (t : ax_lg a = true) : v % 8 = 4 ∧ v < 4722366482869645213696 := by
  unfold ax_lg at t
  rcases ax_or t with q | q
  · have q : a % 8 = 4 := sx_beq q
    obtain ⟨k, rfl⟩ := h.toRef (by omega) (by omega)
    exact ⟨q, k.2.2.1⟩
  · rcases ax_or q with q | q
    · have q := sx_beq q
      subst q
      rcases h with ⟨h, -⟩ | ⟨⟨-, h, -⟩, -⟩ | ⟨h, -⟩ | ⟨h, -⟩ | ⟨-, h⟩ | ⟨h, -⟩ | h
      all_goals first | exact h | omega
    · have q := sx_beq q
      subst q
      rcases h with ⟨h, -⟩ | ⟨⟨-, h, -⟩, -⟩ | ⟨h, -⟩ | ⟨h, -⟩ | ⟨h, -⟩ | ⟨-, h1, h2, -⟩ | h
      all_goals first | exact ⟨h1, h2⟩ | omega
theorem ax_V.nl (h : ax_V ρ a v) (t : ax_nl a = true) : v % 8 ≠ 4 := by
  unfold ax_nl at t
  cases hl : ax_lg a with
  | true => rw [hl] at t; cases t
  | false =>
    rw [hl, sx_if_f] at t
    have ne : a ≠ 39 := fun q => by rw [q] at t; exact absurd t (by decide)
    rcases h with ⟨h, P, -, rfl⟩ | ⟨h, rfl⟩ | ⟨-, h⟩ | ⟨-, rfl⟩ | ⟨rfl, h⟩ | ⟨rfl, h⟩ | h
    · have := ax_i_t P; omega
    · intro q
      unfold ax_lg at hl
      rw [sx_beq_t (show sx_tg v = 4 from q), sx_if_t] at hl
      cases hl
    · exact h
    · decide
    · exact absurd hl (by decide)
    · exact absurd hl (by decide)
    · exact absurd h ne
theorem ax_V.lgf (h : ax_V ρ a v) (t : ax_nl a = true) : ax_lg a = false := by
  unfold ax_nl at t
  cases hl : ax_lg a with
  | true => rw [hl] at t; cases t
  | false => rfl
/-- as far as the older symbols say it -/
theorem ax_V.down {v0 : Nat} (h : ax_V ρ' a v) (h0 : ax_V ρ a v0) (hp : ρ <+: ρ') : ax_V ρ a v := by
  rcases h with ⟨h1, P, h2, h3⟩ | h
  · obtain ⟨P0, k1, k2⟩ := h0.toInt h1
    have e := (k1.mono hp).uniq h2
    have e := sx_b_inj e
    subst e
    exact Or.inl ⟨h1, P0, k1, h3⟩
  · exact Or.inr h
theorem ax_V.seven : ax_V ρ 7 7 := Or.inr (Or.inr (Or.inl ⟨rfl, by decide⟩))
end AXV
def ax_Ls (ρ : List Nat) : List Nat → List Nat → Prop
  | [], [] => True
  | a :: L, v :: cL => ax_V ρ a v ∧ ax_Ls ρ L cL
  | _, _ => False
theorem ax_Ls.nil {ρ : List Nat} : ax_Ls ρ [] [] := True.intro
theorem ax_Ls.cons {ρ : List Nat} {a v : Nat} {L cL : List Nat} (h1 : ax_V ρ a v) (h2 : ax_Ls ρ L cL) : ax_Ls ρ (a :: L) (v :: cL) := ⟨h1, h2⟩
theorem ax_Ls.mono {ρ ρ' : List Nat} (hp : ρ <+: ρ') : ∀ {L cL : List Nat}, ax_Ls ρ L cL → ax_Ls ρ' L cL
  | [], [], _ => ax_Ls.nil
  | _ :: _, _ :: _, h => ax_Ls.cons (h.1.mono hp) (ax_Ls.mono hp h.2)
  | [], _ :: _, h => h.elim
  | _ :: _, [], h => h.elim
theorem ax_Ls.mono' {ρ ρ' : List Nat} {L cL : List Nat} (h : ax_Ls ρ L cL) (hp : ρ <+: ρ') : ax_Ls ρ' L cL := ax_Ls.mono hp h
theorem ax_Ls.ln {ρ : List Nat} : ∀ {L cL : List Nat}, ax_Ls ρ L cL → ∀ i, ax_V ρ (sx_ln L i) (sx_ln cL i)
  | [], [], _, _ => ax_V.seven
  | _ :: _, _ :: _, h, 0 => h.1
  | _ :: _, _ :: _, h, i + 1 => ax_Ls.ln h.2 i
  | [], _ :: _, h, _ => h.elim
  | _ :: _, [], h, _ => h.elim
theorem ax_Ls.len {ρ : List Nat} : ∀ {L cL : List Nat}, ax_Ls ρ L cL → cL.length = L.length
  | [], [], _ => rfl
  | _ :: _, _ :: _, h => by rw [List.length_cons, List.length_cons, ax_Ls.len h.2]
  | [], _ :: _, h => h.elim
  | _ :: _, [], h => h.elim
theorem ax_Ls.set {ρ : List Nat} {a v : Nat} : ∀ {L cL : List Nat}, ax_Ls ρ L cL → ax_V ρ a v → ∀ i, ax_Ls ρ (L.set i a) (cL.set i v)
  | [], [], _, _, _ => ax_Ls.nil
  | _ :: _, _ :: _, h, hv, 0 => ax_Ls.cons hv h.2
  | _ :: _, _ :: _, h, hv, i + 1 => ax_Ls.cons h.1 (ax_Ls.set h.2 hv i)
  | [], _ :: _, h, _, _ => h.elim
  | _ :: _, [], h, _, _ => h.elim
/-! cells -/
def ax_cl (c : Nat) : ax_C0 := sx_r4 (sx_r4 (sx_r4 (sx_r4 ax_gt (c / 64 % 4)) (c / 16 % 4)) (c / 4 % 4)) (c % 4)
theorem ax_gK_eq {β : Type} (c : Nat) (f : Nat → Nat → List ax_S → β) : ax_gK ax_gt c f = f (ax_cl c).1 (ax_cl c).2.1 (ax_cl c).2.2 := by
  unfold ax_gK
  simp only [sx_g4_eq]
  rfl
def ax_Sv (s : ax_S) (v : Nat) : Prop := (s.2.1 = 0 ∧ ∃ P, v = sx_i P ∧ s.2.2.1 ≤ sx_b P ∧ sx_b P ≤ s.2.2.2.1) ∨ (s.2.1 = 1 ∧ v = s.2.2.1 ∧ ax_Rk s.2.2.1) ∨ (s.2.1 = 2 ∧ (v = s.2.2.1 ∨ v = s.2.2.2.1) ∧ ax_Rk s.2.2.1 ∧ ax_Rk s.2.2.2.1) ∨ (s.2.1 = 3 ∧ v % 8 = 0) ∨ (s.2.1 = 4 ∧ ∃ P, v = sx_i P ∧ ((s.2.2.1 ≤ sx_b P ∧ sx_b P ≤ s.2.2.2.1) ∨ (s.2.2.2.2.1 ≤ sx_b P ∧ sx_b P ≤ s.2.2.2.2.2)))
def ax_Pk (c j v : Nat) : Prop := ∃ s, ax_sg (ax_cl c).2.2 (j % (ax_cl c).2.1) (j % (ax_cl c).2.1) = some s ∧ ax_Sv s v
def ax_ar (c : Nat) : Bool := Nat.ble 100 (Nat.mod (ax_cl c).1 256)
/-- each place within its stretch -/
def ax_Hs (h : sx_H) : Prop := (∀ c, c < 160 → (sx_rd h c).1 = (ax_cl c).1) ∧ ∀ c j, c < 160 → j < (ax_cl c).1 / 256 → ax_Pk c j (sx_get (sx_rd h c).2 j)
theorem ax_Hs.hd {h : sx_H} (q : ax_Hs h) : ∀ c, c < 160 → (sx_rd h c).1 = (ax_cl c).1 := q.1
theorem ax_Hs.pk {h : sx_H} (q : ax_Hs h) : ∀ c j, c < 160 → j < (ax_cl c).1 / 256 → ax_Pk c j (sx_get (sx_rd h c).2 j) := q.2
/-! gx: what is kept: tapes, the house, its image, what is remembered of it -/
def gx_P (k : Nat) : Prop := k = 0 ∨ k = 3 ∨ k = 4 ∨ (68 ≤ k ∧ k < 124)
def gx_h (h : sx_H) (a b : Nat) : Prop := sx_get (sx_rd h a).2 4 = sx_get (sx_rd h b).2 3 ∧ sx_get (sx_rd h a).2 5 = sx_get (sx_rd h b).2 4 ∧ sx_get (sx_rd h a).2 6 = sx_get (sx_rd h b).2 0 ∧ (∀ j, j < 48 → j < sx_get (sx_rd h a).2 5 → sx_get (sx_rd h (a + 3)).2 j = sx_get (sx_rd h b).2 (68 + j)) ∧ (∀ j, j < 8 → sx_get (sx_rd h (a + 4)).2 j = sx_get (sx_rd h b).2 (116 + j)) ∧ sx_get (sx_rd h a).2 6 ≤ 96
def gx (h : sx_H) : Prop := (∀ j, j < 400 → sx_get (sx_rd h 2).2 j = sx_get (sx_rd h 153).2 j) ∧ gx_h h 3 149 ∧ gx_h h 56 150 ∧ (∀ r k, 8 * r < sx_get (sx_rd h 148).2 6 → r < 12 → gx_P k → sx_get (sx_rd h 152).2 (364 * r + k) = sx_get (sx_rd h 149).2 k)
/-- the places of it -/
def gx_K (c j : Nat) : Prop := (c = 149 ∧ gx_P j) ∨ (c = 148 ∧ j = 6) ∨ ((c = 3 ∨ c = 56) ∧ 4 ≤ j ∧ j ≤ 6) ∨ c = 2 ∨ c = 153 ∨ c = 150 ∨ c = 152 ∨ c = 6 ∨ c = 7 ∨ c = 59 ∨ c = 60
theorem gx_cg {h h' : sx_H} (q : ∀ c j, gx_K c j → ¬ (c = 148 ∧ j = 6) → sx_get (sx_rd h' c).2 j = sx_get (sx_rd h c).2 j) (q6 : sx_get (sx_rd h' 148).2 6 = sx_get (sx_rd h 148).2 6 ∨ sx_get (sx_rd h' 148).2 6 = 0) (g : gx h) : gx h' := by
  obtain ⟨g1, g2, g3, g4⟩ := g
  have hm : ∀ a b, (a = 3 ∧ b = 149) ∨ (a = 56 ∧ b = 150) → gx_h h a b → gx_h h' a b := by
    intro a b ab g
    obtain ⟨k1, k2, k3, k4, k5, k6⟩ := g
    have f : ∀ j, 4 ≤ j → j ≤ 6 → sx_get (sx_rd h' a).2 j = sx_get (sx_rd h a).2 j := fun j j1 j2 => q a j (Or.inr (Or.inr (Or.inl ⟨by omega, j1, j2⟩))) (by omega)
    have m : ∀ j, gx_P j → sx_get (sx_rd h' b).2 j = sx_get (sx_rd h b).2 j := fun j hj => by
      rcases ab with ⟨-, rfl⟩ | ⟨-, rfl⟩
      · exact q _ _ (Or.inl ⟨rfl, hj⟩) (by omega)
      · exact q _ _ (by unfold gx_K; omega) (by omega)
    have e1 : ∀ j, sx_get (sx_rd h' (a + 3)).2 j = sx_get (sx_rd h (a + 3)).2 j := fun j => q _ _ (by unfold gx_K; omega) (by omega)
    have e2 : ∀ j, sx_get (sx_rd h' (a + 4)).2 j = sx_get (sx_rd h (a + 4)).2 j := fun j => q _ _ (by unfold gx_K; omega) (by omega)
    refine ⟨?_, ?_, ?_, fun j j1 j2 => ?_, fun j j1 => ?_, by rw [f 6 (by omega) (by omega)]; exact k6⟩
    · rw [f 4 (by omega) (by omega), m 3 (by unfold gx_P; omega)]; exact k1
    · rw [f 5 (by omega) (by omega), m 4 (by unfold gx_P; omega)]; exact k2
    · rw [f 6 (by omega) (by omega), m 0 (by unfold gx_P; omega)]; exact k3
    · rw [f 5 (by omega) (by omega)] at j2
      rw [e1, m _ (by unfold gx_P; omega)]
      exact k4 j j1 j2
    · rw [e2, m _ (by unfold gx_P; omega)]
      exact k5 j j1
  refine ⟨fun j hj => ?_, hm _ _ (Or.inl ⟨rfl, rfl⟩) g2, hm _ _ (Or.inr ⟨rfl, rfl⟩) g3, fun r k hr hr2 hk => ?_⟩
  · rw [q 2 j (by unfold gx_K; omega) (by omega), q 153 j (by unfold gx_K; omega) (by omega)]; exact g1 j hj
  · rw [q 152 _ (by unfold gx_K; omega) (by omega), q 149 k (Or.inl ⟨rfl, hk⟩) (by omega)]
    rcases q6 with e | e
    · rw [e] at hr; exact g4 r k hr hr2 hk
    · omega
/-- m from 364 on is as it was -/
def gx2 (h0 h : sx_H) : Prop := ∀ j, 364 ≤ j → sx_get (sx_rd h 149).2 j = sx_get (sx_rd h0 149).2 j
theorem ax_kp_ok {lo hi v : Nat} (h : ax_kp 149 lo hi v = true) : hi < 364 := sx_blt (show Nat.blt hi 364 = true from h)
/-- what isn't named in md is as in h0 -/
def ax_Fr (h0 : sx_H) (md : Nat) (h : sx_H) : Prop := (∀ c j, c < 160 → j < (ax_cl c).1 / 256 → ax_tb md (ax_bit (ax_ar c) c j) = false → sx_get (sx_rd h c).2 j = sx_get (sx_rd h0 c).2 j) ∧ (ax_tb md 5120 = false → gx2 h0 h)
theorem ax_Fr_refl (md : Nat) (h : sx_H) : ax_Fr h md h := ⟨fun _ _ _ _ _ => rfl, fun _ _ _ => rfl⟩
def ax_Mk (W : ax_W) (ρ : List Nat) (M : ax_M) (h : sx_H) : Prop := ∀ m ∈ M, (m.1 = 999 ∧ ∃ i P e, i < W.N ∧ ax_J ρ m.2.1 (2147483648 + i) ∧ W.sy[i]? = some e ∧ e.1 = sx_b P ∧ ax_V ρ m.2.2 (sx_i P)) ∨ (m.1 < 160 ∧ ∃ j, j < (ax_cl m.1).1 / 256 ∧ ax_J ρ m.2.1 (2147483648 + j) ∧ (ax_ar m.1 = false → m.2.1 = 8 * j) ∧ ax_V ρ m.2.2 (sx_get (sx_rd h m.1).2 j))
def ax_X (W : ax_W) (ρ : List Nat) (M : ax_M) (F : ax_F) (Y : ax_Y) (n th : Nat) (h : sx_H) (cs ss : Nat) : Prop := (ax_Yk ρ Y n) ∧ (ax_Fk ρ F) ∧ (ax_Mk W ρ M h) ∧ (ax_Hs h) ∧ (ax_Fr W.h0 W.md h) ∧ (W.nv % 8 = 1 → ax_J ρ W.nv (2147483648 + W.N)) ∧ (cs ≤ W.cb + th) ∧ (ss ≤ W.sb + 6 * th) ∧ (cs ≤ W.cb + W.lim) ∧ (ss ≤ W.sb + 6 * W.lim)
theorem ax_X.yk {W : ax_W} {ρ : List Nat} {M : ax_M} {F : ax_F} {Y : ax_Y} {n th : Nat} {h : sx_H} {cs ss : Nat} (q : ax_X W ρ M F Y n th h cs ss) : ax_Yk ρ Y n := q.1
theorem ax_X.fk {W : ax_W} {ρ : List Nat} {M : ax_M} {F : ax_F} {Y : ax_Y} {n th : Nat} {h : sx_H} {cs ss : Nat} (q : ax_X W ρ M F Y n th h cs ss) : ax_Fk ρ F := q.2.1
theorem ax_X.mm {W : ax_W} {ρ : List Nat} {M : ax_M} {F : ax_F} {Y : ax_Y} {n th : Nat} {h : sx_H} {cs ss : Nat} (q : ax_X W ρ M F Y n th h cs ss) : ax_Mk W ρ M h := q.2.2.1
theorem ax_X.hs {W : ax_W} {ρ : List Nat} {M : ax_M} {F : ax_F} {Y : ax_Y} {n th : Nat} {h : sx_H} {cs ss : Nat} (q : ax_X W ρ M F Y n th h cs ss) : ax_Hs h := q.2.2.2.1
theorem ax_X.fr {W : ax_W} {ρ : List Nat} {M : ax_M} {F : ax_F} {Y : ax_Y} {n th : Nat} {h : sx_H} {cs ss : Nat} (q : ax_X W ρ M F Y n th h cs ss) : ax_Fr W.h0 W.md h := q.2.2.2.2.1
theorem ax_X.nv {W : ax_W} {ρ : List Nat} {M : ax_M} {F : ax_F} {Y : ax_Y} {n th : Nat} {h : sx_H} {cs ss : Nat} (q : ax_X W ρ M F Y n th h cs ss) : W.nv % 8 = 1 → ax_J ρ W.nv (2147483648 + W.N) := q.2.2.2.2.2.1
theorem ax_X.r1 {W : ax_W} {ρ : List Nat} {M : ax_M} {F : ax_F} {Y : ax_Y} {n th : Nat} {h : sx_H} {cs ss : Nat} (q : ax_X W ρ M F Y n th h cs ss) : cs ≤ W.cb + th := q.2.2.2.2.2.2.1
theorem ax_X.r2 {W : ax_W} {ρ : List Nat} {M : ax_M} {F : ax_F} {Y : ax_Y} {n th : Nat} {h : sx_H} {cs ss : Nat} (q : ax_X W ρ M F Y n th h cs ss) : ss ≤ W.sb + 6 * th := q.2.2.2.2.2.2.2.1
theorem ax_X.r3 {W : ax_W} {ρ : List Nat} {M : ax_M} {F : ax_F} {Y : ax_Y} {n th : Nat} {h : sx_H} {cs ss : Nat} (q : ax_X W ρ M F Y n th h cs ss) : cs ≤ W.cb + W.lim := q.2.2.2.2.2.2.2.2.1
theorem ax_X.r4 {W : ax_W} {ρ : List Nat} {M : ax_M} {F : ax_F} {Y : ax_Y} {n th : Nat} {h : sx_H} {cs ss : Nat} (q : ax_X W ρ M F Y n th h cs ss) : ss ≤ W.sb + 6 * W.lim := q.2.2.2.2.2.2.2.2.2
theorem ax_Mk.mono {W : ax_W} {ρ ρ' : List Nat} {M : ax_M} {h : sx_H} (q : ax_Mk W ρ M h) (hp : ρ <+: ρ') : ax_Mk W ρ' M h := fun m hm => by
  rcases q m hm with ⟨a, i, P, e, b1, b2, b3, b4, b5⟩ | ⟨a, j, b1, b2, b3, b4⟩
  · exact Or.inl ⟨a, i, P, e, b1, b2.mono hp, b3, b4, b5.mono hp⟩
  · exact Or.inr ⟨a, j, b1, b2.mono hp, b3, b4.mono hp⟩
theorem ax_X.mono {W : ax_W} {ρ ρ' : List Nat} {M : ax_M} {F : ax_F} {Y Y' : ax_Y} {n n' th : Nat} {h : sx_H} {cs ss : Nat} (X : ax_X W ρ M F Y n th h cs ss) (hp : ρ <+: ρ') (hY : ax_Yk ρ' Y' n') : ax_X W ρ' M F Y' n' th h cs ss :=
  ⟨hY, X.fk.mono hp, X.mm.mono hp, X.hs, X.fr, fun q => (X.nv q).mono hp, X.r1, X.r2, X.r3, X.r4⟩
theorem ax_X.yf {W : ax_W} {ρ : List Nat} {M : ax_M} {F F' : ax_F} {Y Y' : ax_Y} {n th : Nat} {h : sx_H} {cs ss : Nat} (X : ax_X W ρ M F Y n th h cs ss) (hY : ax_Yk ρ Y' n) (hF : ax_Fk ρ F') : ax_X W ρ M F' Y' n th h cs ss :=
  ⟨hY, hF, X.mm, X.hs, X.fr, X.nv, X.r1, X.r2, X.r3, X.r4⟩
theorem ax_X.m {W : ax_W} {ρ : List Nat} {M M' : ax_M} {F : ax_F} {Y : ax_Y} {n th : Nat} {h : sx_H} {cs ss : Nat} (X : ax_X W ρ M F Y n th h cs ss) (hM : ax_Mk W ρ M' h) : ax_X W ρ M' F Y n th h cs ss :=
  ⟨X.yk, X.fk, hM, X.hs, X.fr, X.nv, X.r1, X.r2, X.r3, X.r4⟩
/-! ends, heads, the run -/
def ax_Or (W : ax_W) (ρ : List Nat) (ao : ax_O) (co : sx_O) : Prop := co.1 = ao.1 ∧ (ao.1 = 1 → ax_V ρ ao.2.1 co.2.1) ∧ co.2.2.2.1 = 160 ∧ co.2.2.2.2.1 = W.sy ∧ ax_X W ρ ao.2.2.1 ao.2.2.2.1 ao.2.2.2.2.1 ao.2.2.2.2.2.1 ao.2.2.2.2.2.2 co.2.2.1 co.2.2.2.2.2.1 co.2.2.2.2.2.2
def ax_Pq (W : ax_W) (ρ : List Nat) (outs : List ax_O) (Post : sx_O → Prop) : Prop := ∀ ao ∈ outs, ∀ ρ' co, ρ <+: ρ' → ax_Or W ρ' ao co → Post co
noncomputable def ax_tst (e : ax_I) (L S : List Nat) (M : ax_M) (F : ax_F) (Y : ax_Y) (n th : Nat) : Bool := sx_if (Nat.beq e.2.1 1) (ax_bw e L S M Y n) (ax_bc e L S M F Y n th)
def ax_Hq (W : ax_W) (D mi cd : Nat) (ρ : List Nat) (lst : List ax_I) (Post : sx_O → Prop) : Prop := ∀ e ∈ lst, ∀ ρ' L S M F Y n th cL cS h cs ss, ρ <+: ρ' → ax_X W ρ' M F Y n th h cs ss → ax_Ls ρ' L cL → ax_Ls ρ' S cS → ax_tst e L S M F Y n th = true → cx_G W D mi cd e.1 cL cS h cs ss Post
def ax_Ok (W : ax_W) (ih : ax_ih) : Prop := ∀ d mi cd lst fl pc L S M F Y n th outs, ih d mi cd lst fl pc L S M F Y n th = some outs → ∀ D ρ cL cS h cs ss Post, d ≤ D → ax_X W ρ M F Y n th h cs ss → ax_Ls ρ L cL → ax_Ls ρ S cS → ax_Pq W ρ outs Post → ax_Hq W D mi cd ρ lst Post → cx_G W D mi cd pc cL cS h cs ss Post
theorem ax_Pq.sub {W : ax_W} {ρ ρ' : List Nat} {outs outs' : List ax_O} {Post : sx_O → Prop} (h : ax_Pq W ρ outs Post) (hs : ∀ o ∈ outs', o ∈ outs) (hp : ρ <+: ρ') : ax_Pq W ρ' outs' Post := fun ao ha r co hr q => h ao (hs ao ha) r co (hp.trans hr) q
theorem ax_Hq.mono {W : ax_W} {D mi cd : Nat} {ρ ρ' : List Nat} {lst : List ax_I} {Post : sx_O → Prop} (h : ax_Hq W D mi cd ρ lst Post) (hp : ρ <+: ρ') : ax_Hq W D mi cd ρ' lst Post := fun e he r L S M F Y n th cL cS hh cs ss hr => h e he r L S M F Y n th cL cS hh cs ss (hp.trans hr)
theorem ax_go {W : ax_W} {ih : ax_ih} {d D mi cd p th n cs ss : Nat} {lst : List ax_I} {L S cL cS : List Nat} {M : ax_M} {F : ax_F} {Y : ax_Y} {ρ ρ' : List Nat} {outs outs' : List ax_O} {hh : sx_H} {Post : sx_O → Prop} (hok : ax_Ok W ih) (hd : d ≤ D) (Pq : ax_Pq W ρ outs Post) (Hq : ax_Hq W D mi cd ρ lst Post)
    (h : ax_on ih d mi cd lst th p L S M F Y n = some outs') (hs : ∀ o ∈ outs', o ∈ outs) (hp : ρ <+: ρ') (X : ax_X W ρ' M F Y n th hh cs ss) (HL : ax_Ls ρ' L cL) (HS : ax_Ls ρ' S cS) : cx_G W D mi cd p cL cS hh cs ss Post := by
  unfold ax_on at h
  rw [sx_fo_eq] at h
  exact hok d mi cd lst false p L S M F Y n th outs' h D ρ' cL cS hh cs ss Post hd X HL HS (Pq.sub hs hp) (Hq.mono hp)
theorem ax_Ls.c {ρ : List Nat} {a : Nat} {S : List Nat} : ∀ {cS : List Nat}, ax_Ls ρ (a :: S) cS → ∃ v r, cS = v :: r ∧ ax_V ρ a v ∧ ax_Ls ρ S r
  | [], h => h.elim
  | v :: r, h => ⟨v, r, rfl, h.1, h.2⟩
theorem ax_p1_h {S : List Nat} {K : Nat → List Nat → ax_R} {outs : List ax_O} (h : ax_p1 S K = some outs) : ∃ a r, S = a :: r ∧ K a r = some outs := by
  cases S with
  | nil => cases h
  | cons a r => exact ⟨a, r, rfl, h⟩
