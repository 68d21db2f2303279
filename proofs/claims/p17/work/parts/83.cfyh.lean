/-! fx: calls by contract alone -/
/-- the cells are as ax wants them -/
def gHs (g : Nat → Nat → Int) : Prop := ∀ h, HV h g → ax_Hs h
theorem gHs_of {h : sx_H} {g : Nat → Nat → Int} (q : ax_Hs h) (v : HV h g) : gHs g := fun h' v' => by
  refine ⟨v'.1, fun c j hc hj => ?_⟩
  have e : sx_get (sx_rd h' c).2 j = sx_get (sx_rd h c).2 j := by rw [(v'.2 c j hc hj).1, (v.2 c j hc hj).1]
  rw [e]
  exact q.pk c j hc hj
/-- what isn't named in md is as before -/
def gFr (md : Nat) (g g' : Nat → Nat → Int) : Prop := ∀ c j, c < 160 → j < (ax_cl c).1 / 256 → fInt c j = true → ax_tb md (ax_bit (ax_ar c) c j) = false → g' c j = g c j
theorem fx_val {W : ax_W} {c : ax_C} {r d : Nat} {cav Lj : List Nat} {g : Nat → Nat → Int} {Q : Nat → Nat → (Nat → Nat → Int) → Prop} (hv : ax_Valid W.N W.sy c) (hg : gHs g) (ha : ax_As c.2.2.1 cav) (hp : c.2.2.2.1 = []) (hx : sx_xp cav (sx_im (sx_mt c.1).2) = some Lj) (hr : 1 ≤ r) (hd : c.2.1 ≤ d) (ht : ∀ t ∈ c.2.2.2.2.2.2, t.1 < 2)
    (kq : ∀ t ∈ c.2.2.2.2.2.2, ∀ k v g', k = t.1 → gHs g' → gFr c.2.2.2.2.1 g g' → (t.2.1 = 1 → ∃ z, v = fI z ∧ fR z ∧ (t.2.2.1 : Int) ≤ z + 2147483648 ∧ z + 2147483648 ≤ (t.2.2.2.1 : Int)) → Q k v g') : fx W r d c.1 0 Lj [] g Q := fun D h cs ss hD v h1 h2 => by
  obtain ⟨co, ev, a1, a2, t, a3, E1, E2, E3, E4, E5, E6, E7, E8, E9, E10⟩ := hv D cav h cs ss Lj (by omega) ha (by rw [hp]; intro q hq; cases hq) (hg h v) (by omega) (by omega) hx
  have tl := ht t a3
  have v' := HV_of E8
  refine ⟨co, ev, a1, a2, fG co.2.2.1, v', kq t a3 co.1 co.2.1 _ (by rw [E1]; omega) (gHs_of E8 v') (fun c' j hc hj hi hb => ?_) (fun e => ?_), fun _ => ⟨by omega, by omega⟩, fun q => by omega⟩
  · have e := E9.1 c' j hc hj hb
    rw [(v'.2 c' j hc hj).1, (v.2 c' j hc hj).1] at e
    unfold fEnc at e
    rw [if_pos hi, if_pos hi] at e
    exact fI_inj ((v'.2 c' j hc hj).2.1 hi) ((v.2 c' j hc hj).2.1 hi) e
  · obtain ⟨P, p1, p2, p3, -⟩ := E2 e
    refine ⟨P.toInt, by rw [p1]; exact fI_of_toBv P, ⟨by have := Int32.le_toInt P; omega, by have := Int32.toInt_lt P; omega⟩, ?_, ?_⟩
    · have : (sx_b P : Int) = P.toInt + 2147483648 := by
        have := Int32.le_toInt P
        unfold sx_b
        omega
      omega
    · have : (sx_b P : Int) = P.toInt + 2147483648 := by
        have := Int32.le_toInt P
        unfold sx_b
        omega
      omega
