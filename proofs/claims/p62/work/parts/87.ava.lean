/-! ax: all contracts are valid -/
def ax_Sc (N : Nat) (sy : sx_Y) : Prop := N < 2147483648 ∧ ∀ i, i < N → ∃ P e, sy[i]? = some e ∧ e.1 = sx_b P ∧ e.2.1 = sx_b P
def ax_Vl (N : Nat) (sy : sx_Y) : List ax_C → Prop
  | [] => True
  | c :: l => ax_Valid N sy c ∧ ax_Vl N sy l
def ax_Gl (N : Nat) (sy : sx_Y) : List (Nat × List ax_C) → Prop
  | [] => True
  | q :: l => ax_Vl N sy q.2 ∧ ax_Gl N sy l
section AXVal
variable {N : Nat} {sy : sx_Y}
theorem ax_Vl.all : ∀ {l : List ax_C}, ax_Vl N sy l → ∀ c ∈ l, ax_Valid N sy c
  | [], _, c, hc => by cases hc
  | q :: l, h, c, hc => by
    rcases List.mem_cons.mp hc with rfl | hc
    · exact h.1
    · exact ax_Vl.all h.2 c hc
theorem ax_Gl.all : ∀ {l : List (Nat × List ax_C)}, ax_Gl N sy l → ∀ q ∈ l, ∀ c ∈ q.2, ax_Valid N sy c
  | [], _, c, hc => by cases hc
  | p :: l, h, q, hq => by
    rcases List.mem_cons.mp hq with rfl | hq
    · exact ax_Vl.all h.1
    · exact ax_Gl.all h.2 q hq
theorem ax_vd {g : ax_G} {c : ax_C} {en fuel : Nat} (h : ax_Sc N sy) (hg : ax_Gl N sy g.2.2.1) (hmd : g.1 = c.2.2.2.2.1) (hnv : g.2.2.2.2.2.1 = 0) (hlm : g.2.2.2.2.2.2.1 = 1) (hq : ax_chk g c en fuel = true) : ax_Valid N sy c :=
  ax_chk_ok h.1 h.2 (ax_Gl.all hg) hmd hnv hlm hq
/-- an argument's bounds cut in two -/
theorem ax_vcut {m d lo hi md fn : Nat} (mid : Nat) {ts : List ax_T} (h1 : ax_Valid N sy (m, d, [(1, lo, mid)], [], md, fn, ts)) (h2 : ax_Valid N sy (m, d, [(1, mid + 1, hi)], [], md, fn, ts)) : ax_Valid N sy (m, d, [(1, lo, hi)], [], md, fn, ts) := by
  intro D cav h cs ss Lj hD hA
  match cav, hA with
  | [v], hA =>
    rcases hA.1 with ⟨q, -⟩ | ⟨-, q, -⟩ | ⟨-, -, P, e, b1, b2⟩
    · cases q
    · cases q
    · by_cases hm : sx_b P ≤ mid
      · exact h1 D [v] h cs ss Lj hD ⟨Or.inr (Or.inr ⟨show (1 : Nat) ≠ 0 by decide, show (1 : Nat) ≠ 2 by decide, P, e, b1, hm⟩), True.intro⟩
      · exact h2 D [v] h cs ss Lj hD ⟨Or.inr (Or.inr ⟨show (1 : Nat) ≠ 0 by decide, show (1 : Nat) ≠ 2 by decide, P, e, by show mid + 1 ≤ sx_b P; omega, b2⟩), True.intro⟩
  | [], hA => exact hA.elim
  | _ :: _ :: _, hA => exact hA.2.elim
end AXVal
