/-! ax: bits of a byte, out of the walk -/
/-- a contract of a number's bounds, made sharper by a walk -/
theorem ax_vsharp {N : Nat} {sy : sx_Y} {m d lo hi lo2 hi2 md r1 r2 r3 r4 : Nat} (hv : ax_Valid N sy (m, d, [(1, lo, hi)], [], md, 0, [(1, 1, r1, r2, [])])) (h1 : lo ≤ lo2) (h2 : hi2 ≤ hi)
    (hf : ∀ (W : ax_W) (z : Int) (g : Nat → Nat → Int) (Lj : List Nat), fR z → (lo2 : Int) ≤ z + 2147483648 → z + 2147483648 ≤ (hi2 : Int) → sx_xp [fI z] (sx_im (sx_mt m).2) = some Lj → fx W 1 d m 0 Lj [] g (fun k v _ => k = 1 ∧ ∃ y, v = fI y ∧ fR y ∧ (r3 : Int) ≤ y + 2147483648 ∧ y + 2147483648 ≤ (r4 : Int))) : ax_Valid N sy (m, d, [(1, lo2, hi2)], [], md, 0, [(1, 1, r3, r4, [])]) := by
  intro D cav h cs ss Lj hD hA hP hs c1 c2 hx
  match cav, hA with
  | [v], hA =>
    rcases hA.1 with ⟨q, -⟩ | ⟨-, q, -⟩ | ⟨-, -, P, e, b1, b2⟩
    · exact absurd q (by decide : ¬ ((1 : Nat) = 0))
    · exact absurd q (by decide : ¬ ((1 : Nat) = 2))
    · have b1 : lo2 ≤ sx_b P := b1
      have b2 : sx_b P ≤ hi2 := b2
      obtain ⟨co, ev, a1, a2, t, a3, a4⟩ := hv D [v] h cs ss Lj hD ⟨Or.inr (Or.inr ⟨(by decide : (1 : Nat) ≠ 0), (by decide : (1 : Nat) ≠ 2), P, e, Nat.le_trans h1 b1, Nat.le_trans b2 h2⟩), True.intro⟩ hP hs c1 c2 hx
      have ht : t = (1, 1, r1, r2, []) := List.mem_singleton.mp a3
      subst ht
      obtain ⟨E1, E2, E3, E4, E5, E6, E7, E8, E9, E10⟩ := a4
      have ez : v = fI P.toInt := by rw [e]; exact fI_of_toBv P
      have p0 := Int32.le_toInt P
      have p1 := Int32.toInt_lt P
      have zR : fR P.toInt := ⟨by omega, by omega⟩
      have bz : (sx_b P : Int) = P.toInt + 2147483648 := by
        unfold sx_b
        omega
      have w := HV_of hs
      obtain ⟨o, ev2, -, -, g', -, q', -⟩ := hf (N, sy, h, 0, 0, 0, 0, 0) P.toInt (fG h) Lj zR (by omega) (by omega) (by rw [← ez]; exact hx) D h cs ss hD w (by omega) (by omega)
      have eo : co = o := cx_uniq (W := (N, sy, h, 0, 0, 0, 0, 0)) ev ev2
      subst eo
      obtain ⟨-, y, y1, yR, y2, y3⟩ := q'
      refine ⟨co, ev, a1, a2, (1, 1, r3, r4, []), List.mem_singleton.mpr rfl, E1, fun _ => ?_, E3, E4, E5, E6, E7, E8, E9, fun q hq => by cases hq⟩
      obtain ⟨P2, q1, q2, q3, -⟩ := E2 rfl
      have l0 := Int32.le_toInt P2
      have l1 := Int32.toInt_lt P2
      have e2 : fI P2.toInt = fI y := by rw [← y1, q1]; exact (fI_of_toBv P2).symm
      have ey : P2.toInt = y := fI_inj ⟨by omega, by omega⟩ yR e2
      have bz2 : (sx_b P2 : Int) = P2.toInt + 2147483648 := by
        unfold sx_b
        omega
      exact ⟨P2, q1, by show r3 ≤ sx_b P2; omega, by show sx_b P2 ≤ r4; omega, fun h => by cases h⟩
  | [], hA => exact hA.elim
  | _ :: _ :: _, hA => exact hA.2.elim
theorem ax_v720 {N : Nat} {sy : sx_Y} (h : ax_Sc N sy) : ax_Valid N sy ax_c720 := ax_vsharp (lo := 0) (hi := 4294967295) (r1 := 2147483648) (r2 := 2147483679) (ax_vd (g := ax_g755) h True.intro rfl rfl rfl ax_q755) (by decide) (by decide) (fun W z g Lj zR z1 z2 hx => by
  have hl : sx_xp [fI z] (sx_im (sx_mt 328).2) = some [fI z, 7, 7] := f_xp (by intro v hv; simp only [List.mem_cons, List.not_mem_nil, or_false] at hv; subst hv; exact fI_n4 _) (show 1 ≤ _ by decide +kernel)
  have e : Lj = [fI z, 7, 7] := Option.some.inj (hx.symm.trans hl)
  subst e
  have b := pB_b (s := z) (by omega) (by omega)
  have b3 := b.2.2.1
  exact fx.up (sp_mbits8 (r := 0) (Q := fun k v _ => k = 1 ∧ ∃ y, v = fI y ∧ fR y ∧ ((2147483649 : Nat) : Int) ≤ y + 2147483648 ∧ y + 2147483648 ≤ ((2147483656 : Nat) : Int)) ⟨rfl, pB z 31, rfl, by unfold fR; omega, by omega, by omega⟩) (Nat.zero_le _) (Nat.le_refl _))
