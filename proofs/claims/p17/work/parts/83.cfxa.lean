/-! fx: what a run does, with the cells as a function -/
def fI (z : Int) : Nat := 8 * (z % 4294967296).toNat
theorem fI_eq (z : Int) : fI z = sx_i (Int32.ofInt z) := by
  show 8 * (z % 4294967296).toNat = 8 * (BitVec.ofInt 32 z).toNat
  rw [BitVec.toNat_ofInt]
  rfl
def fR (z : Int) : Prop := -2147483648 ≤ z ∧ z < 2147483648
theorem fI_tg (z : Int) : sx_tg (fI z) = 0 := by rw [fI_eq]; exact ax_tg_i _
theorem fI_t8 (z : Int) : fI z % 8 = 0 := fI_tg z
theorem fI_lt (z : Int) : fI z < 34359738368 := by unfold fI; omega
theorem fI_b {z : Int} (h : fR z) : (sx_b (Int32.ofInt z) : Int) = z + 2147483648 := by
  obtain ⟨h1, h2⟩ := h
  unfold sx_b
  rw [Int32.toInt_ofInt_of_le (by omega) (by omega)]
  omega
theorem fI_n {z : Int} (h0 : 0 ≤ z) (h1 : z < 4294967296) : (Int32.ofInt z).toBitVec.toNat = z.toNat := by
  show (BitVec.ofInt 32 z).toNat = _
  rw [BitVec.toNat_ofInt]
  show (z % 4294967296).toNat = _
  rw [Int.emod_eq_of_lt h0 h1]
/-- the int of a number of 32 bits -/
def fD (v : Nat) : Int := if v / 8 < 2147483648 then (v / 8 : Nat) else ((v / 8 : Nat) : Int) - 4294967296
theorem fD_ok (P : Int32) : fI (fD (sx_i P)) = sx_i P ∧ fR (fD (sx_i P)) := by
  have l := P.toBitVec.isLt
  have e : sx_i P / 8 = P.toBitVec.toNat := by rw [ax_i_eq]; omega
  unfold fD
  rw [e]
  rw [ax_i_eq]
  unfold fI fR
  split <;> omega
theorem fD_b (P : Int32) : fD (sx_i P) = (sx_b P : Int) - 2147483648 := by
  have l := P.toBitVec.isLt
  have e : sx_i P / 8 = P.toBitVec.toNat := by rw [ax_i_eq]; omega
  unfold fD
  rw [e, ax_b_tn]
  split <;> omega
/-! places -/
noncomputable def fInt (c j : Nat) : Bool := if (ax_cl c).1 % 256 = 100 then true else if (ax_cl c).1 % 256 < 100 then (match ax_sg (ax_cl c).2.2 j j with | some s => decide (s.2.1 = 0) || decide (s.2.1 = 4) | none => false) else false
noncomputable def fPtr (c j : Nat) : Nat := match ax_sg (ax_cl c).2.2 (j % (ax_cl c).2.1) (j % (ax_cl c).2.1) with | some s => if s.2.1 = 1 then s.2.2.1 else 0 | none => 0
noncomputable def fEnc (c j : Nat) (z : Int) : Nat := if fInt c j = true then fI z else z.toNat
def HV (h : sx_H) (g : Nat → Nat → Int) : Prop := (∀ c, c < 160 → (sx_rd h c).1 = (ax_cl c).1) ∧ ∀ c j, c < 160 → j < (ax_cl c).1 / 256 → sx_get (sx_rd h c).2 j = fEnc c j (g c j) ∧ (fInt c j = true → fR (g c j)) ∧ (fPtr c j ≠ 0 → sx_get (sx_rd h c).2 j = fPtr c j)
/-- with z at the place j of c -/
def fu (g : Nat → Nat → Int) (c j : Nat) (z : Int) : Nat → Nat → Int := fun c' j' => if c' = c ∧ j' = j then z else g c' j'
theorem fu_eq (g : Nat → Nat → Int) (c j : Nat) (z : Int) : fu g c j z c j = z := if_pos ⟨rfl, rfl⟩
theorem fu_ne {g : Nat → Nat → Int} {c j c' j' : Nat} {z : Int} (h : ¬ (c' = c ∧ j' = j)) : fu g c j z c' j' = g c' j' := if_neg h
theorem fu_nc {g : Nat → Nat → Int} {c j c' j' : Nat} {z : Int} (h : c' ≠ c) : fu g c j z c' j' = g c' j' := if_neg (fun q => h q.1)
theorem fu_nj {g : Nat → Nat → Int} {c j c' j' : Nat} {z : Int} (h : j' ≠ j) : fu g c j z c' j' = g c' j' := if_neg (fun q => h q.2)
/-- the cells of h as a function -/
noncomputable def fG (h : sx_H) (c j : Nat) : Int := if fInt c j = true then fD (sx_get (sx_rd h c).2 j) else (sx_get (sx_rd h c).2 j : Nat)
theorem fInt_kind {c j : Nat} {v : Nat} (hk : ax_Pk c j v) (hi : fInt c j = true) (h1 : (ax_cl c).1 % 256 = 100 → ∀ s, ax_sg (ax_cl c).2.2 (j % (ax_cl c).2.1) (j % (ax_cl c).2.1) = some s → s.2.1 = 0 ∨ s.2.1 = 4) (h2 : (ax_cl c).1 % 256 < 100 → j % (ax_cl c).2.1 = j) : ∃ P, v = sx_i P := by
  obtain ⟨s, e, hs⟩ := hk
  have t : s.2.1 = 0 ∨ s.2.1 = 4 := by
    by_cases q : (ax_cl c).1 % 256 = 100
    · exact h1 q s e
    · unfold fInt at hi
      rw [if_neg q] at hi
      by_cases q2 : (ax_cl c).1 % 256 < 100
      · rw [if_pos q2] at hi
        rw [h2 q2] at e
        rw [e] at hi
        simp only [Bool.or_eq_true, decide_eq_true_eq] at hi
        exact hi
      · rw [if_neg q2] at hi
        cases hi
  rcases hs with ⟨k, P, e, -⟩ | ⟨k, -⟩ | ⟨k, -⟩ | ⟨k, -⟩ | ⟨k, P, e, -⟩
  · exact ⟨P, e⟩
  · omega
  · omega
  · omega
  · exact ⟨P, e⟩

def f_okc (c : Nat) : Bool := if (ax_cl c).1 % 256 = 100 then (ax_cl c).2.2.all (fun s => Nat.beq s.2.1 0 || Nat.beq s.2.1 4) else if (ax_cl c).1 % 256 < 100 then Nat.beq (ax_cl c).2.1 ((ax_cl c).1 / 256) else true
theorem f_okc_all : ∀ c, c < 160 → f_okc c = true := by decide +kernel
theorem HV_of {h : sx_H} (q : ax_Hs h) : HV h (fG h) := by
  refine ⟨q.hd, fun c j hc hj => ?_⟩
  have k := q.pk c j hc hj
  have ok := f_okc_all c hc
  unfold f_okc at ok
  refine ⟨?_, ?_, ?_⟩
  · unfold fEnc fG
    by_cases hi : fInt c j = true
    · rw [if_pos hi, if_pos hi]
      obtain ⟨P, e⟩ := fInt_kind k hi (fun t s e => by
        rw [if_pos t] at ok
        have := List.all_eq_true.mp ok s (ax_sg_mem e)
        simp only [Bool.or_eq_true] at this
        rcases this with t | t
        · exact Or.inl (sx_beq t)
        · exact Or.inr (sx_beq t)) (fun t => by
        rw [if_neg (by omega), if_pos t] at ok
        rw [sx_beq ok]
        exact Nat.mod_eq_of_lt hj)
      rw [e]
      exact (fD_ok P).1.symm
    · rw [if_neg hi, if_neg hi]
      rfl
  · intro hi
    unfold fG
    rw [if_pos hi]
    obtain ⟨P, e⟩ := fInt_kind k hi (fun t s e => by
      rw [if_pos t] at ok
      have := List.all_eq_true.mp ok s (ax_sg_mem e)
      simp only [Bool.or_eq_true] at this
      rcases this with t | t
      · exact Or.inl (sx_beq t)
      · exact Or.inr (sx_beq t)) (fun t => by
      rw [if_neg (by omega), if_pos t] at ok
      rw [sx_beq ok]
      exact Nat.mod_eq_of_lt hj)
    rw [e]
    exact (fD_ok P).2
  · intro hp
    obtain ⟨s, e, hs⟩ := k
    unfold fPtr at hp ⊢
    rw [e] at hp ⊢
    by_cases t : s.2.1 = 1
    · show _ = if s.2.1 = 1 then s.2.2.1 else 0
      rw [if_pos t]
      rcases hs with ⟨k, -⟩ | ⟨k, e, -⟩ | ⟨k, -⟩ | ⟨k, -⟩ | ⟨k, -⟩
      · omega
      · exact e
      · omega
      · omega
      · omega
    · simp only [if_neg t] at hp
      exact absurd rfl hp
/-- a place gets an int -/
theorem HV.put {h : sx_H} {g : Nat → Nat → Int} (q : HV h g) {c j : Nat} {z : Int} (hc : c < 160) (hj : j < (ax_cl c).1 / 256) (hi : fInt c j = true) (hp : fPtr c j = 0) (hz : fR z) : HV (sx_wr h c ((sx_rd h c).1, sx_set (sx_rd h c).2 j (fI z))) (fu g c j z) := by
  refine ⟨fun c' hc' => ?_, fun c' j' hc' hj' => ?_⟩
  · by_cases e : c' = c
    · subst e; rw [sx_rd_wr]; exact q.1 _ hc
    · rw [sx_rd_wr_ne _ _ (by omega) (by omega) e]; exact q.1 _ hc'
  · by_cases e : c' = c
    · subst e
      rw [sx_rd_wr]
      by_cases ej : j' = j
      · subst ej
        rw [sx_get_set (by have := fI_lt z; omega), fu_eq]
        refine ⟨?_, fun _ => hz, fun t => absurd hp t⟩
        unfold fEnc
        rw [if_pos hi]
      · rw [sx_get_set_ne (by have := fI_lt z; omega) ej, fu_nj ej]
        exact q.2 _ _ hc' hj'
    · rw [sx_rd_wr_ne _ _ (by omega) (by omega) e, fu_nc e]
      exact q.2 _ _ hc' hj'
/-- the same with l throws that are caught -/
def fWl (W : ax_W) (l : Nat) : ax_W := (W.1, W.2.1, W.2.2.1, W.2.2.2.1, W.2.2.2.2.1, W.2.2.2.2.2.1, l, W.2.2.2.2.2.2.2)
/-- from a place on, with d calls at most one in the other and r throws: the run ends, and Q holds of how -/
def fx (W : ax_W) (r d mi pc : Nat) (L S : List Nat) (g : Nat → Nat → Int) (Q : Nat → Nat → (Nat → Nat → Int) → Prop) : Prop :=
  ∀ D h cs ss, d ≤ D → HV h g → cs + r ≤ 600002 → ss + 6 * r ≤ 7302232 → cx_G W D mi (sx_mt mi).1 pc L S h cs ss (fun o => o.2.2.2.1 = 160 ∧ o.2.2.2.2.1 = W.sy ∧ ∃ g', HV o.2.2.1 g' ∧ Q o.1 o.2.1 g' ∧ (o.1 ≤ 1 → o.2.2.2.2.2.1 ≤ cs + W.lim ∧ o.2.2.2.2.2.2 ≤ ss + 6 * W.lim) ∧ (1 < o.1 → 1 ≤ r ∧ o.2.2.2.2.2.1 ≤ cs + 1 + W.lim ∧ o.2.2.2.2.2.2 ≤ ss + 6 + 6 * W.lim))
section FX
variable {W : ax_W} {r d mi pc : Nat} {L S : List Nat} {g : Nat → Nat → Int} {Q : Nat → Nat → (Nat → Nat → Int) → Prop}
theorem fx.mono {Q' : Nat → Nat → (Nat → Nat → Int) → Prop} (h : fx W r d mi pc L S g Q) (hq : ∀ k v g', Q k v g' → Q' k v g') : fx W r d mi pc L S g Q' := fun D hh cs ss hd hv h1 h2 => by
  obtain ⟨o, ev, a, b, g', c1, c2, c3⟩ := h D hh cs ss hd hv h1 h2
  exact ⟨o, ev, a, b, g', c1, hq _ _ _ c2, c3⟩
theorem fx.up {r' d' : Nat} (h : fx W r d mi pc L S g Q) (hr : r ≤ r') (hd : d ≤ d') : fx W r' d' mi pc L S g Q := fun D hh cs ss hD hv h1 h2 => by
  obtain ⟨o, ev, a, b, g', c1, c2, c3, c4⟩ := h D hh cs ss (by omega) hv (by omega) (by omega)
  exact ⟨o, ev, a, b, g', c1, c2, c3, fun t => ⟨by have := (c4 t).1; omega, (c4 t).2⟩⟩
/-- what the cells are like may be used -/
theorem fx_rg (h : (∀ c j, c < 160 → j < (ax_cl c).1 / 256 → fInt c j = true → fR (g c j)) → fx W r d mi pc L S g Q) : fx W r d mi pc L S g Q := fun D hh cs ss hD hv => h (fun c j hc hj hi => (hv.2 c j hc hj).2.1 hi) D hh cs ss hD hv
/-- a step that changes no cell -/
theorem fx_s {pc' : Nat} {L' S' : List Nat} (hh : sx_wh (sx_ft (sx_mt mi).1 pc) = 0) (hb : ∀ ih D h cs ss, HV h g → sx_body ih W.N (sx_ft (sx_mt mi).1 pc) D mi (sx_mt mi).1 [] pc L S h 160 W.sy cs ss = ih D mi (sx_mt mi).1 [] false pc' L' S' h 160 W.sy cs ss) (k : fx W r d mi pc' L' S' g Q) : fx W r d mi pc L S g Q :=
  fun D h cs ss hd hv h1 h2 => cx_step rfl hh (k D h cs ss hd hv h1 h2) (fun ih => hb ih D h cs ss hv)
theorem fx_sp {pc' : Nat} {L' S' : List Nat} {c j : Nat} {z : Int} (hc : c < 160) (hj : j < (ax_cl c).1 / 256) (hi : fInt c j = true) (hp : fPtr c j = 0) (hz : fR z) (hh : sx_wh (sx_ft (sx_mt mi).1 pc) = 0) (hb : ∀ ih D h cs ss, HV h g → sx_body ih W.N (sx_ft (sx_mt mi).1 pc) D mi (sx_mt mi).1 [] pc L S h 160 W.sy cs ss = ih D mi (sx_mt mi).1 [] false pc' L' S' (sx_wr h c ((sx_rd h c).1, sx_set (sx_rd h c).2 j (fI z))) 160 W.sy cs ss) (k : fx W r d mi pc' L' S' (fu g c j z) Q) : fx W r d mi pc L S g Q :=
  fun D h cs ss hd hv h1 h2 => cx_step rfl hh (k D _ cs ss hd (hv.put hc hj hi hp hz) h1 h2) (fun ih => hb ih D h cs ss hv)
end FX
