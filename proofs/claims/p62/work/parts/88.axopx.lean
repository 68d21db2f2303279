/-! px: what it says holds of the run with any script -/
def px_Fin (N : Nat) (sy : sx_Y) (o1 o : sx_O) : Prop := (o1.1 = 99 ∧ ∃ f0, ∀ f, f0 ≤ f → sx_run N f 44 0 sx_c0 [] false 23 px_L [] o1.2.2.1 o1.2.2.2.1 sy o1.2.2.2.2.2.1 o1.2.2.2.2.2.2 = some [o]) ∨ (o1.1 ≠ 99 ∧ o = (o1.1, o1.2.1, o1.2.2.1, o1.2.2.2.1, sy, o1.2.2.2.2.2.1, o1.2.2.2.2.2.2))
def px_C (N : Nat) (sy : sx_Y) (ih : sx_ih) : Prop := ∀ d mi cd pc L S h n cs ss o1, ih d mi cd [] false pc L S h n [] cs ss = some [o1] → ∀ o, px_Fin N sy o1 o → ∃ f0, ∀ f, f0 ≤ f → sx_run N f d mi cd [] false pc L S h n sy cs ss = some [o]
theorem px_le_ok : ∀ {a b : List Nat}, px_le a b = true → a = b
  | [], [], _ => rfl
  | [], _ :: _, h => by cases h
  | _ :: _, [], h => by cases h
  | x :: a, y :: b, h => by
    have h : sx_and (Nat.beq x y) (px_le a b) = true := h
    obtain ⟨h1, h2⟩ := sx_and_ok h
    rw [sx_beq h1, px_le_ok h2]
section PXO
variable {N : Nat} {sy : sx_Y} {ih : sx_ih} {w d mi cd pc : Nat} {L S : List Nat} {h : sx_H} {n cs ss : Nat} {o1 o : sx_O}
theorem px_one {F : sx_ih → sx_R} (hw : sx_ft cd pc = w) (hh : sx_wh w = 0) (hb : ∀ ih, sx_body ih N w d mi cd [] pc L S h n sy cs ss = F ih) (hF : ∃ f0, ∀ f, f0 ≤ f → F (sx_run N f) = some [o]) : ∃ f0, ∀ f, f0 ≤ f → sx_run N f d mi cd [] false pc L S h n sy cs ss = some [o] := by
  obtain ⟨f0, hf⟩ := hF
  refine ⟨f0 + 1, fun f hle => ?_⟩
  obtain ⟨f', rfl⟩ : ∃ f', f = f' + 1 := ⟨f - 1, by omega⟩
  rw [cx_run_eq]
  unfold sx_step
  rw [sx_fo_eq, hw, sx_if_f, sx_beq_t hh, sx_if_t, hb]
  exact hf f' (by omega)
theorem px_go (C : px_C N sy ih) (hF : px_Fin N sy o1 o) (hw : sx_ft cd pc = w) (hh : sx_wh w = 0) {G : sx_ih → sx_Y → sx_R} (T : px_T G ih d mi cd [o1]) (hb : ∀ ih, sx_body ih N w d mi cd [] pc L S h n sy cs ss = G ih sy) : ∃ f0, ∀ f, f0 ≤ f → sx_run N f d mi cd [] false pc L S h n sy cs ss = some [o] := by
  obtain ⟨p, l, s, h', n', c', s', k1, k2⟩ := T
  exact px_one hw hh (fun ih => by rw [hb, k2]) (C d mi cd p l s h' n' c' s' o1 k1 o hF)
theorem px_inv_ok (C : px_C N sy ih) (hF : px_Fin N sy o1 o) (hw : sx_ft cd pc = w) (hh : sx_wh w = 0) (hop : sx_op w = 23) (q : px_inv ih w d mi cd pc L S h n cs ss = some [o1]) : ∃ f0, ∀ f, f0 ≤ f → sx_run N f d mi cd [] false pc L S h n sy cs ss = some [o] := by
  unfold px_inv at q
  rw [sx_fo_eq, sx_mtK_eq] at q
  have tk : ∀ (m : Nat) (S acc : List Nat) (K : List Nat → List Nat → sx_R) (outs : List sx_O), sx_tk m S acc K = some outs → ∃ av rest, K av rest = some outs ∧ ∀ K' : List Nat → List Nat → sx_R, sx_tk m S acc K' = K' av rest := by
    intro m
    induction m with
    | zero => intro S acc K outs hk; exact ⟨acc, S, hk, fun _ => rfl⟩
    | succ m ihm =>
      intro S acc K outs hk
      cases S with
      | nil => cases hk
      | cons a S =>
        obtain ⟨av, rest, h1, h2⟩ := ihm S (a :: acc) K outs hk
        exact ⟨av, rest, h1, fun K' => h2 K'⟩
  obtain ⟨av, rest, q, hk⟩ := tk _ _ _ _ _ q
  obtain ⟨v, r, e, q⟩ := px_p1 q
  subst e
  obtain ⟨c1, q⟩ := px_if0 q
  cases d with
  | zero => cases q
  | succ d' =>
    have q : sx_mtK (sx_wc w) (fun cj fj => sx_mtK mi (fun _ _ =>
      sx_if (sx_and (sx_and (Nat.blt 0 cj) (Nat.ble (Nat.add (Nat.mul 2 (List.length rest)) (sx_im fj)) 89)) (sx_and (Nat.ble cs 600002) (Nat.ble ss 7302232)))
        (Option.rec none (fun Lj => Option.rec none (fun outs => List.rec none (fun c t _ => List.rec (sx_if (Nat.beq c.1 0) (sx_fo (Nat.add pc 3) (fun pc' => ih (d' + 1) mi cd [] false pc' L rest c.2.2.1 c.2.2.2.1 [] c.2.2.2.2.2.1 c.2.2.2.2.2.2)) none) (fun _ _ _ => none) t) outs)
          (ih d' (sx_wc w) cj [] false 0 Lj [] h n [] cs ss)) (sx_xp (v :: r) (sx_im fj))) none)) = some [o1] := q
    rw [sx_mtK_eq, sx_mtK_eq] at q
    obtain ⟨c2, q⟩ := px_if0 q
    obtain ⟨Lj, hL, q⟩ := sx_opt_ok q
    obtain ⟨os, hos, q⟩ := sx_opt_ok q
    match os, hos, q with
    | [], _, q => cases q
    | _ :: _ :: _, _, q => cases q
    | [c], hos, q =>
      have q : sx_if (Nat.beq c.1 0) (sx_fo (Nat.add pc 3) (fun pc' => ih (d' + 1) mi cd [] false pc' L rest c.2.2.1 c.2.2.2.1 [] c.2.2.2.2.2.1 c.2.2.2.2.2.2)) none = some [o1] := q
      obtain ⟨c3, q⟩ := px_if0 q
      rw [sx_fo_eq] at q
      have c3' : c.1 = 0 := sx_beq c3
      obtain ⟨f1, g1⟩ := C _ _ _ _ _ _ _ _ _ _ _ hos (c.1, c.2.1, c.2.2.1, c.2.2.2.1, sy, c.2.2.2.2.2.1, c.2.2.2.2.2.2) (Or.inr ⟨by rw [c3']; decide, rfl⟩)
      obtain ⟨f2, g2⟩ := C _ _ _ _ _ _ _ _ _ _ _ q o hF
      refine px_one hw hh (F := fun ih' => Option.rec none (fun outs => sx_cont ih' (d' + 1) mi cd [] pc L rest (sx_ihd (sx_mt mi).2) outs) (ih' d' (sx_wc w) (sx_mt (sx_wc w)).1 [] false 0 Lj [] h n sy cs ss)) (fun ih' => ?_) ⟨f1 + f2, fun f hf => ?_⟩
      · rw [cx_b23 hop]; unfold sx_oInvI
        rw [sx_fo_eq, sx_mtK_eq, hk, cx_p1, c1, sx_if_t]
        show sx_mtK (sx_wc w) (fun cj fj => sx_mtK mi (fun _ f =>
          sx_if (sx_and (sx_and (Nat.blt 0 cj) (Nat.ble (Nat.add (Nat.mul 2 (List.length rest)) (sx_im fj)) 89)) (sx_and (Nat.ble cs 600002) (Nat.ble ss 7302232)))
            (Option.rec none (fun Lj => Option.rec none (fun outs => sx_cont ih' (d' + 1) mi cd [] pc L rest (sx_ihd f) outs)
              (ih' d' (sx_wc w) cj [] false 0 Lj [] h n sy cs ss)) (sx_xp (v :: r) (sx_im fj))) none)) = _
        rw [sx_mtK_eq, sx_mtK_eq, c2, sx_if_t, hL]
      · rw [g1 f (by omega)]
        show sx_app (sx_if (Nat.beq c.1 0) (sx_fo (Nat.add pc 3) (fun pc' => sx_run N f (d' + 1) mi cd [] false pc' L rest c.2.2.1 c.2.2.2.1 sy c.2.2.2.2.2.1 c.2.2.2.2.2.2)) _) (some []) = _
        rw [c3, sx_if_t, sx_fo_eq]
        exact cx_app1 _ _ (g2 f (by omega))
theorem px_step_ok (C : px_C N sy ih) (hF : px_Fin N sy o1 o) (q : px_step ih d mi cd pc L S h n cs ss = some [o1]) : ∃ f0, ∀ f, f0 ≤ f → sx_run N f d mi cd [] false pc L S h n sy cs ss = some [o] := by
  unfold px_step at q
  cases ct : sx_and (Nat.beq mi 0) (Nat.beq pc 23) with
  | true =>
    rw [ct, sx_if_t] at q
    obtain ⟨c, q⟩ := px_if0 q
    obtain ⟨a1, c⟩ := sx_and_ok c
    obtain ⟨a2, c⟩ := sx_and_ok c
    obtain ⟨a3, a4⟩ := sx_and_ok c
    obtain ⟨b1, b2⟩ := sx_and_ok ct
    have e1 := sx_beq a1
    have e2 := sx_beq a2
    have e3 := px_le_ok a3
    have e4 := ax_nil_t a4
    have e5 := sx_beq b1
    have e6 := sx_beq b2
    subst e1 e2 e3 e4 e5 e6
    cases q
    rcases hF with ⟨-, hF⟩ | ⟨hF, -⟩
    · exact hF
    · exact absurd rfl hF
  | false =>
    rw [ct, sx_if_f, sx_fo_eq] at q
    obtain ⟨c, q⟩ := px_if0 q
    have c := sx_beq c
    unfold px_body at q
    rw [sx_fo_eq] at q
    have iff : ∀ {b : Bool} {a z : sx_R} {os : List sx_O}, sx_if b a z = some os → (b = true ∧ a = some os) ∨ (b = false ∧ z = some os) := by
      intro b a z os hq
      cases b with
      | true => exact Or.inl ⟨rfl, hq⟩
      | false => exact Or.inr ⟨rfl, hq⟩
    rcases iff q with ⟨k, q⟩ | ⟨-, q⟩
    · exact px_go C hF rfl c (px_1 q) (fun ih => cx_b1 (sx_beq k))
    rcases iff q with ⟨k, q⟩ | ⟨-, q⟩
    · exact px_go C hF rfl c (px_2 q) (fun ih => cx_b2 (sx_beq k))
    rcases iff q with ⟨k, q⟩ | ⟨-, q⟩
    · exact px_go C hF rfl c (px_3 q) (fun ih => cx_b3 (sx_beq k))
    rcases iff q with ⟨k, q⟩ | ⟨-, q⟩
    · obtain ⟨t, q⟩ := px_if0 q
      exact px_go C hF rfl c (px_5 t q) (fun ih => cx_b5 (sx_beq k))
    rcases iff q with ⟨k, q⟩ | ⟨-, q⟩
    · obtain ⟨y, r1, e1, q2⟩ := px_p1 q
      obtain ⟨x, r2, e2, q3⟩ := px_p1 q2
      obtain ⟨t, q4⟩ := px_if0 q3
      obtain ⟨t1, t2⟩ := sx_and_ok t
      subst e2 e1
      exact px_go C hF rfl c (px_7 t1 t2 q4) (fun ih => cx_b7 (sx_beq k))
    rcases iff q with ⟨k, q⟩ | ⟨-, q⟩
    · exact px_go C hF rfl c (px_8 q) (fun ih => cx_b8 (sx_beq k))
    rcases iff q with ⟨k, q⟩ | ⟨-, q⟩
    · exact px_go C hF rfl c (px_9 q) (fun ih => cx_b9 (sx_beq k))
    rcases iff q with ⟨k, q⟩ | ⟨-, q⟩
    · exact px_go C hF rfl c (px_10 q) (fun ih => cx_b10 (sx_beq k))
    rcases iff q with ⟨k, q⟩ | ⟨-, q⟩
    · obtain ⟨y, r1, e1, q2⟩ := px_p1 q
      obtain ⟨x, r2, e2, q3⟩ := px_p1 q2
      obtain ⟨t, q4⟩ := px_if0 q3
      subst e2 e1
      exact px_go C hF rfl c (px_12 t q4) (fun ih => cx_b12 (sx_beq k))
    rcases iff q with ⟨k, q⟩ | ⟨-, q⟩
    · obtain ⟨y, r1, e1, q2⟩ := px_p1 q
      obtain ⟨x, r2, e2, q3⟩ := px_p1 q2
      obtain ⟨t, q4⟩ := px_if0 q3
      subst e2 e1
      exact px_go C hF rfl c (px_12 t q4) (fun ih => cx_b16 (sx_beq k))
    rcases iff q with ⟨k, q⟩ | ⟨-, q⟩
    · exact px_go C hF rfl c (px_18 q) (fun ih => cx_b18 (sx_beq k))
    rcases iff q with ⟨k, q⟩ | ⟨-, q⟩
    · obtain ⟨x, r1, e1, q2⟩ := px_p1 q
      obtain ⟨t, q3⟩ := px_if0 q2
      subst e1
      exact px_go C hF rfl c (px_19 t q3) (fun ih => cx_b19 (sx_beq k))
    rcases iff q with ⟨k, q⟩ | ⟨-, q⟩
    · obtain ⟨x, r1, e1, q2⟩ := px_p1 q
      obtain ⟨t, q3⟩ := px_if0 q2
      subst e1
      exact px_go C hF rfl c (px_19 t q3) (fun ih => cx_b20 (sx_beq k))
    rcases iff q with ⟨k, q⟩ | ⟨-, q⟩
    · exact px_inv_ok C hF rfl c (sx_beq k) q
    rcases iff q with ⟨k, q⟩ | ⟨-, q⟩
    · exact px_go C hF rfl c (px_24 q) (fun ih => cx_b24 (sx_beq k))
    rcases iff q with ⟨k, q⟩ | ⟨-, q⟩
    · cases S with
      | cons a t => cases q
      | nil =>
        cases q
        rcases hF with ⟨hF, -⟩ | ⟨-, hF⟩
        · cases hF
        · subst hF
          exact px_one rfl c (F := fun _ => some [(0, 0, h, n, sy, cs, ss)]) (fun ih => by rw [cx_b27 (sx_beq k)]; rfl) ⟨0, fun _ _ => rfl⟩
    rcases iff q with ⟨k, q⟩ | ⟨-, q⟩
    · exact px_go C hF rfl c (px_29 q) (fun ih => cx_b29 (sx_beq k))
    cases q
theorem px_run_ok : ∀ fuel, px_C N sy (px_run fuel)
  | 0 => fun d mi cd pc L S h n cs ss o1 q => by cases q
  | f + 1 => fun d mi cd pc L S h n cs ss o1 q o hF => px_step_ok (px_run_ok f) hF q
end PXO
