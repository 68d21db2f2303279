/-! sx: what the executor's numbers mean on the machine -/
/-- an int, with 2^31 more -/
def sx_b (z : Int32) : Nat := (z.toInt + 2147483648).toNat
def sx_V (b : Nat → Nat) (ad : List Nat) (rs : List Int32) (v : Nat) (x : Value) : Prop :=
  (v % 8 = 0 ∧ x = .int (Int32.ofNat (v / 8))) ∨ (v % 8 = 1 ∧ ∃ z, rs[v / 8]? = some z ∧ x = .int z) ∨ (v % 8 = 2 ∧ ∃ a, ad[v / 8]? = some a ∧ x = .ref a) ∨ (v % 8 = 3 ∧ x = .null) ∨ (v % 8 = 4 ∧ x = .long (Int64.ofNat (v / 8))) ∨ (v % 8 = 5 ∧ x = .ref (b (v / 8))) ∨ (v = 15 ∧ x.category = 1)
theorem sx_pre {α : Type} {l l' : List α} (h : l <+: l') {k : Nat} {x : α} (hx : l[k]? = some x) : l'[k]? = some x := by
  obtain ⟨t, rfl⟩ := h
  rw [List.getElem?_append_left (List.getElem?_eq_some_iff.mp hx).1]
  exact hx
theorem sx_V.mono {b : Nat → Nat} {ad ad' : List Nat} {rs rs' : List Int32} {v : Nat} {x : Value} (h : sx_V b ad rs v x) (ha : ad <+: ad') (hr : rs <+: rs') : sx_V b ad' rs' v x := by
  rcases h with h | ⟨h, z, h1, h2⟩ | ⟨h, a, h1, h2⟩ | h | h | h | h
  · exact Or.inl h
  · exact Or.inr (Or.inl ⟨h, z, sx_pre hr h1, h2⟩)
  · exact Or.inr (Or.inr (Or.inl ⟨h, a, sx_pre ha h1, h2⟩))
  · exact Or.inr (Or.inr (Or.inr (Or.inl h)))
  · exact Or.inr (Or.inr (Or.inr (Or.inr (Or.inl h))))
  · exact Or.inr (Or.inr (Or.inr (Or.inr (Or.inr (Or.inl h)))))
  · exact Or.inr (Or.inr (Or.inr (Or.inr (Or.inr (Or.inr h)))))
theorem sx_V.t0 {b : Nat → Nat} {ad : List Nat} {rs : List Int32} {v : Nat} {x : Value} (h : sx_V b ad rs v x) (ht : v % 8 = 0) : x = .int (Int32.ofNat (v / 8)) := by
  rcases h with h | ⟨h, -⟩ | ⟨h, -⟩ | ⟨h, -⟩ | ⟨h, -⟩ | ⟨h, -⟩ | ⟨h, -⟩ <;> first | exact h.2 | omega
theorem sx_V.t1 {b : Nat → Nat} {ad : List Nat} {rs : List Int32} {v : Nat} {x : Value} (h : sx_V b ad rs v x) (ht : v % 8 = 1) : ∃ z, rs[v / 8]? = some z ∧ x = .int z := by
  rcases h with ⟨h, -⟩ | h | ⟨h, -⟩ | ⟨h, -⟩ | ⟨h, -⟩ | ⟨h, -⟩ | ⟨h, -⟩ <;> first | exact h.2 | omega
theorem sx_V.t2 {b : Nat → Nat} {ad : List Nat} {rs : List Int32} {v : Nat} {x : Value} (h : sx_V b ad rs v x) (ht : v % 8 = 2) : ∃ a, ad[v / 8]? = some a ∧ x = .ref a := by
  rcases h with ⟨h, -⟩ | ⟨h, -⟩ | h | ⟨h, -⟩ | ⟨h, -⟩ | ⟨h, -⟩ | ⟨h, -⟩ <;> first | exact h.2 | omega
theorem sx_V.t4 {b : Nat → Nat} {ad : List Nat} {rs : List Int32} {v : Nat} {x : Value} (h : sx_V b ad rs v x) (ht : v % 8 = 4) : x = .long (Int64.ofNat (v / 8)) := by
  rcases h with ⟨h, -⟩ | ⟨h, -⟩ | ⟨h, -⟩ | ⟨h, -⟩ | h | ⟨h, -⟩ | ⟨h, -⟩ <;> first | exact h.2 | omega
theorem sx_V.t5 {b : Nat → Nat} {ad : List Nat} {rs : List Int32} {v : Nat} {x : Value} (h : sx_V b ad rs v x) (ht : v % 8 = 5) : x = .ref (b (v / 8)) := by
  rcases h with ⟨h, -⟩ | ⟨h, -⟩ | ⟨h, -⟩ | ⟨h, -⟩ | ⟨h, -⟩ | h | ⟨h, -⟩ <;> first | exact h.2 | omega
theorem sx_V.i {b : Nat → Nat} {ad : List Nat} {rs : List Int32} {v : Nat} {x : Value} (h : sx_V b ad rs v x) (ht : v % 8 ≤ 1) : ∃ z, x = .int z := by
  rcases (show v % 8 = 0 ∨ v % 8 = 1 by omega) with q | q
  · exact ⟨_, h.t0 q⟩
  · obtain ⟨z, -, hz⟩ := h.t1 q; exact ⟨z, hz⟩
theorem sx_V.c1 {b : Nat → Nat} {ad : List Nat} {rs : List Int32} {v : Nat} {x : Value} (h : sx_V b ad rs v x) (ht : v % 8 ≠ 4) : x.category = 1 := by
  rcases h with ⟨-, rfl⟩ | ⟨-, z, -, rfl⟩ | ⟨-, a, -, rfl⟩ | ⟨-, rfl⟩ | ⟨h, -⟩ | ⟨-, rfl⟩ | ⟨-, h⟩ <;> first | rfl | exact absurd h ht | exact h
theorem sx_V.c2 {b : Nat → Nat} {ad : List Nat} {rs : List Int32} {v : Nat} {x : Value} (h : sx_V b ad rs v x) : x.category ≤ 2 := by
  rcases h with ⟨-, rfl⟩ | ⟨-, z, -, rfl⟩ | ⟨-, a, -, rfl⟩ | ⟨-, rfl⟩ | ⟨-, rfl⟩ | ⟨-, rfl⟩ | ⟨-, h⟩ <;> first | (rw [h]; decide) | simp [Value.category]
theorem sx_V.n7 {b : Nat → Nat} {ad : List Nat} {rs : List Int32} {v : Nat} {x : Value} (h : sx_V b ad rs v x) : v ≠ 7 := by
  rintro rfl
  rcases h with ⟨h, -⟩ | ⟨h, -⟩ | ⟨h, -⟩ | ⟨h, -⟩ | ⟨h, -⟩ | ⟨h, -⟩ | ⟨h, -⟩ <;> omega
/-- a cell -/
def sx_E (K : ClassId → FieldType → Prop) (b : Nat → Nat) (ad : List Nat) (rs : List Int32) (c : Nat × Nat) (e : va_E) : Prop :=
  (∃ ci fs, e = .inr (ci, fs) ∧ c.1 % 256 = ci ∧ (∃ C, sx_classes[ci]? = some C ∧ C.2.2 = fs.length) ∧ fs.length = c.1 / 256 ∧ ∀ j v, fs[j]? = some v → sx_V b ad rs (sx_get c.2 j) v) ∨
  (∃ cA f, e = .inl (cA, c.1 / 256, .inl f) ∧ c.1 % 256 = 100 ∧ (K cA .int ∧ c.1 / 256 ≤ 5000) ∧ ∀ j, j < c.1 / 256 → sx_V b ad rs (sx_get c.2 j) (.int (f j))) ∨
  (∃ cA f, e = .inl (cA, c.1 / 256, .inr (.inl f)) ∧ c.1 % 256 = 101 ∧ (K cA .long ∧ c.1 / 256 ≤ 5000) ∧ ∀ j, j < c.1 / 256 → sx_get c.2 j % 8 = 0 ∧ f j = Int64.ofNat (sx_get c.2 j / 8)) ∨
  (∃ cA f, e = .inl (cA, c.1 / 256, .inr (.inr (.inr (.inr f)))) ∧ c.1 % 256 = 102 ∧ (K cA (.object "AbsentRings$Table") ∧ c.1 / 256 ≤ 5000) ∧ ∀ j, j < c.1 / 256 → (sx_get c.2 j = 0 ∧ f j = none) ∨ ∃ q, f j = some q ∧ sx_get c.2 j % 8 = 2 ∧ ad[sx_get c.2 j / 8]? = some q)
theorem sx_E.mono {K : ClassId → FieldType → Prop} {b : Nat → Nat} {ad ad' : List Nat} {rs rs' : List Int32} {c : Nat × Nat} {e : va_E} (h : sx_E K b ad rs c e) (ha : ad <+: ad') (hr : rs <+: rs') : sx_E K b ad' rs' c e := by
  rcases h with ⟨ci, fs, h1, h2, h3, h4, h5⟩ | ⟨cA, f, h1, h2, h3, h4⟩ | h | ⟨cA, f, h1, h2, h3, h4⟩
  · exact Or.inl ⟨ci, fs, h1, h2, h3, h4, fun j v hv => (h5 j v hv).mono ha hr⟩
  · exact Or.inr (Or.inl ⟨cA, f, h1, h2, h3, fun j hj => (h4 j hj).mono ha hr⟩)
  · exact Or.inr (Or.inr (Or.inl h))
  · refine Or.inr (Or.inr (Or.inr ⟨cA, f, h1, h2, h3, fun j hj => ?_⟩))
    rcases h4 j hj with q | ⟨q, q1, q2, q3⟩
    · exact Or.inl q
    · exact Or.inr ⟨q, q1, q2, sx_pre ha q3⟩
/-- the cells -/
def sx_G (D : va_G) (K : ClassId → FieldType → Prop) (b : Nat → Nat) (A : Nat → Prop) (ad : List Nat) (rs : List Int32) (h : sx_H) (n : Nat) (H : Heap) : Prop :=
  ∃ ws : va_W, va_P D sx_classes ws H ∧ va_D A ws ∧ ws.map Prod.fst = ad ∧ ad.length = n ∧ n ≤ 256 ∧ ∀ k q, ws[k]? = some q → sx_E K b ad rs (sx_rd h k) q.2
theorem sx_G.mono {D : va_G} {K : ClassId → FieldType → Prop} {b : Nat → Nat} {A : Nat → Prop} {ad : List Nat} {rs rs' : List Int32} {h : sx_H} {n : Nat} {H : Heap} (g : sx_G D K b A ad rs h n H) (hr : rs <+: rs') : sx_G D K b A ad rs' h n H := by
  obtain ⟨ws, h1, h2, h3, h4, h5, h6⟩ := g
  exact ⟨ws, h1, h2, h3, h4, h5, fun k q hq => (h6 k q hq).mono (List.prefix_rfl) hr⟩
theorem sx_G.weaken {D : va_G} {K : ClassId → FieldType → Prop} {b : Nat → Nat} {A B : Nat → Prop} {ad : List Nat} {rs : List Int32} {h : sx_H} {n : Nat} {H : Heap} (g : sx_G D K b A ad rs h n H) (hAB : ∀ q, q ∈ ad → A q → B q) : sx_G D K b B ad rs h n H := by
  obtain ⟨ws, h1, h2, h3, h4, h5, h6⟩ := g
  refine ⟨ws, h1, h2.weaken (fun k q hq hA => hAB _ ?_ hA), h3, h4, h5, h6⟩
  rw [← h3]
  exact List.mem_map.mpr ⟨q, List.mem_of_getElem? hq, rfl⟩
/-- a cell of the world, by its number -/
theorem sx_G.at {D : va_G} {K : ClassId → FieldType → Prop} {b : Nat → Nat} {A : Nat → Prop} {ad : List Nat} {rs : List Int32} {h : sx_H} {n : Nat} {H : Heap} (g : sx_G D K b A ad rs h n H) {k a : Nat} (hk : ad[k]? = some a) :
    ∃ (ws : va_W) (e : va_E), va_P D sx_classes ws H ∧ va_D A ws ∧ ws.map Prod.fst = ad ∧ ad.length = n ∧ n ≤ 256 ∧ (∀ k q, ws[k]? = some q → sx_E K b ad rs (sx_rd h k) q.2) ∧ ws[k]? = some (a, e) ∧ sx_E K b ad rs (sx_rd h k) e := by
  obtain ⟨ws, h1, h2, h3, h4, h5, h6⟩ := g
  have hk2 := hk
  rw [← h3, List.getElem?_map] at hk2
  cases hw : ws[k]? with
  | none => rw [hw] at hk2; cases hk2
  | some q =>
    rw [hw] at hk2
    obtain ⟨a', e⟩ := q
    have : a' = a := by simpa using hk2
    subst this
    exact ⟨ws, e, h1, h2, h3, h4, h5, h6, hw, h6 k _ hw⟩
theorem sx_map_set {ws : va_W} {k a : Nat} {e e' : va_E} (h : ws[k]? = some (a, e)) : (ws.set k (a, e')).map Prod.fst = ws.map Prod.fst := by
  apply List.ext_getElem?
  intro i
  rw [List.getElem?_map, List.getElem?_map]
  by_cases hi : i = k
  · subst hi
    rw [List.getElem?_set_self (List.getElem?_eq_some_iff.mp h).1, h]
    rfl
  · rw [List.getElem?_set_ne (Ne.symm hi)]
/-- a cell is written -/
theorem sx_G.set {D : va_G} {K : ClassId → FieldType → Prop} {b : Nat → Nat} {A : Nat → Prop} {ad : List Nat} {rs : List Int32} {h : sx_H} {n : Nat} {H1 : Heap} {ws : va_W} {k a : Nat} {e e' : va_E} {c : Nat × Nat}
    (h3 : ws.map Prod.fst = ad) (h4 : ad.length = n) (h5 : n ≤ 256) (h6 : ∀ k q, ws[k]? = some q → sx_E K b ad rs (sx_rd h k) q.2) (hw : ws[k]? = some (a, e)) (hP : va_P D sx_classes (ws.set k (a, e')) H1) (hD : va_D A (ws.set k (a, e'))) (he : sx_E K b ad rs c e') : sx_G D K b A ad rs (sx_wr h k c) n H1 := by
  have hl := (List.getElem?_eq_some_iff.mp hw).1
  have hln : ws.length = n := by rw [← h4, ← h3, List.length_map]
  refine ⟨_, hP, hD, by rw [sx_map_set hw]; exact h3, h4, h5, fun j q hq => ?_⟩
  by_cases hj : j = k
  · subst hj
    rw [List.getElem?_set_self hl] at hq
    cases hq
    rw [sx_rd_wr]
    exact he
  · have hq2 := hq
    rw [List.getElem?_set_ne (Ne.symm hj)] at hq2
    have hjl := (List.getElem?_eq_some_iff.mp hq2).1
    rw [sx_rd_wr_ne h c (by omega) (by omega) hj]
    exact h6 j q hq2
/-- a cell is made -/
theorem sx_G.push {D : va_G} {K : ClassId → FieldType → Prop} {b : Nat → Nat} {A : Nat → Prop} {ad : List Nat} {rs : List Int32} {h : sx_H} {n : Nat} {H1 : Heap} {ws : va_W} {a : Nat} {e : va_E} {c : Nat × Nat}
    (h3 : ws.map Prod.fst = ad) (h4 : ad.length = n) (h5 : n < 256) (h6 : ∀ k q, ws[k]? = some q → sx_E K b ad rs (sx_rd h k) q.2) (hP : va_P D sx_classes (ws ++ [(a, e)]) H1) (hD : va_D A (ws ++ [(a, e)])) (he : sx_E K b (ad ++ [a]) rs c e) : sx_G D K b A (ad ++ [a]) rs (sx_wr h n c) (n + 1) H1 := by
  have hln : ws.length = n := by rw [← h4, ← h3, List.length_map]
  refine ⟨_, hP, hD, by rw [List.map_append, h3]; rfl, by rw [List.length_append, h4]; rfl, by omega, fun j q hq => ?_⟩
  by_cases hj : j < ws.length
  · rw [List.getElem?_append_left hj] at hq
    rw [sx_rd_wr_ne h c (by omega) (by omega) (by omega)]
    exact (h6 j q hq).mono (List.prefix_append _ _) List.prefix_rfl
  · rw [List.getElem?_append_right (by omega)] at hq
    have hz : j - ws.length < 1 := (List.getElem?_eq_some_iff.mp hq).1
    have hj0 : j = n := by omega
    subst hj0
    rw [show j - ws.length = 0 by omega] at hq
    cases hq
    rw [sx_rd_wr]
    exact he
/-- symbols -/
def sx_Yok (rs : List Int32) (sy : sx_Y) : Prop := rs.length = sy.length ∧ ∀ (k : Nat) (z : Int32) (e : Nat × Nat × Nat × Nat), rs[k]? = some z → sy[k]? = some e → e.1 ≤ sx_b z ∧ sx_b z ≤ e.2.1 ∧ (e.2.2.1 ≠ 0 → ∃ y, rs[e.2.2.1 - 1]? = some y ∧ sx_b z = sx_b y + e.2.2.2) ∧ (e.2.2.1 = 0 → e.2.2.2 ≠ 0 → z &&& 63 = Int32.ofNat (e.2.2.2 - 1))
theorem sx_Yok.at {rs : List Int32} {sy : sx_Y} (h : sx_Yok rs sy) {k : Nat} {z : Int32} (hk : rs[k]? = some z) : ∃ e : Nat × Nat × Nat × Nat, sy[k]? = some e ∧ e.1 ≤ sx_b z ∧ sx_b z ≤ e.2.1 ∧ (e.2.2.1 ≠ 0 → ∃ y, rs[e.2.2.1 - 1]? = some y ∧ sx_b z = sx_b y + e.2.2.2) ∧ (e.2.2.1 = 0 → e.2.2.2 ≠ 0 → z &&& 63 = Int32.ofNat (e.2.2.2 - 1)) := by
  have hl := (List.getElem?_eq_some_iff.mp hk).1
  have hl2 : k < sy.length := by rw [← h.1]; exact hl
  exact ⟨sy[k], List.getElem?_eq_getElem hl2, h.2 k z _ hk (List.getElem?_eq_getElem hl2)⟩
theorem sx_Yok.rf {rs : List Int32} {sy : sx_Y} (h : sx_Yok rs sy) {k lo hi : Nat} {z : Int32} {e : Nat × Nat × Nat × Nat} (hk : rs[k]? = some z) (he : sy[k]? = some e) (h1 : lo ≤ sx_b z) (h2 : sx_b z ≤ hi) : sx_Yok rs (sy.set k (lo, hi, e.2.2.1, e.2.2.2)) := by
  refine ⟨by rw [List.length_set]; exact h.1, fun j y e' hj he' => ?_⟩
  by_cases hjk : j = k
  · subst hjk
    cases hk.symm.trans hj
    rw [List.getElem?_set_self (List.getElem?_eq_some_iff.mp he).1] at he'
    cases he'
    exact ⟨h1, h2, (h.2 j z e hk he).2.2⟩
  · rw [List.getElem?_set_ne (Ne.symm hjk)] at he'
    exact h.2 j y e' hj he'
theorem sx_Yok.fr {rs : List Int32} {sy : sx_Y} (h : sx_Yok rs sy) {lo hi pr off : Nat} {z : Int32} (h1 : lo ≤ sx_b z) (h2 : sx_b z ≤ hi) (h3 : pr ≠ 0 → ∃ y, rs[pr - 1]? = some y ∧ sx_b z = sx_b y + off) (h4 : pr = 0 → off = 0 := by first | exact fun _ => rfl | (intro h; cases h)) : sx_Yok (rs ++ [z]) (sy ++ [(lo, hi, pr, off)]) := by
  refine ⟨by rw [List.length_append, List.length_append, h.1]; rfl, fun j y e hj he => ?_⟩
  by_cases hl : j < rs.length
  · rw [List.getElem?_append_left hl] at hj
    rw [List.getElem?_append_left (by rw [← h.1]; exact hl)] at he
    obtain ⟨q1, q2, q3, q4⟩ := h.2 j y e hj he
    exact ⟨q1, q2, fun hp => by obtain ⟨w, w1, w2⟩ := q3 hp; exact ⟨w, sx_pre (List.prefix_append _ _) w1, w2⟩, q4⟩
  · have hlt : j < (rs ++ [z]).length := (List.getElem?_eq_some_iff.mp hj).1
    rw [List.length_append] at hlt
    have hj0 : j = rs.length := by simp at hlt; omega
    subst hj0
    rw [List.getElem?_append_right (Nat.le_refl _), Nat.sub_self] at hj
    rw [List.getElem?_append_right (by rw [h.1]; exact Nat.le_refl _), h.1, Nat.sub_self] at he
    cases hj
    cases he
    exact ⟨h1, h2, fun hp => by obtain ⟨w, w1, w2⟩ := h3 hp; exact ⟨w, sx_pre (List.prefix_append _ _) w1, w2⟩, fun hp ho => absurd (h4 hp) ho⟩
/-- locals and stack -/
def sx_Lc (b : Nat → Nat) (ad : List Nat) (rs : List Int32) (L : List Nat) (ls : Array Slot) : Prop := ls.size = L.length ∧ lv_wf ls ∧ ∀ (i v : Nat), L[i]? = some v → v ≠ 7 → ∃ x : Value, ls[i]? = some (Slot.val x) ∧ sx_V b ad rs v x
theorem sx_Lc.mono {b : Nat → Nat} {ad ad' : List Nat} {rs rs' : List Int32} {L : List Nat} {ls : Array Slot} (h : sx_Lc b ad rs L ls) (ha : ad <+: ad') (hr : rs <+: rs') : sx_Lc b ad' rs' L ls :=
  ⟨h.1, h.2.1, fun i v hi h7 => by obtain ⟨x, h1, h2⟩ := h.2.2 i v hi h7; exact ⟨x, h1, h2.mono ha hr⟩⟩
def sx_St (b : Nat → Nat) (ad : List Nat) (rs : List Int32) : List Nat → List Value → Prop
  | [], [] => True
  | v :: S, x :: st => sx_V b ad rs v x ∧ sx_St b ad rs S st
  | _, _ => False
theorem sx_St.mono {b : Nat → Nat} {ad ad' : List Nat} {rs rs' : List Int32} (ha : ad <+: ad') (hr : rs <+: rs') : ∀ {S : List Nat} {st : List Value}, sx_St b ad rs S st → sx_St b ad' rs' S st
  | [], [], h => h
  | v :: S, x :: st, h => ⟨h.1.mono ha hr, sx_St.mono ha hr h.2⟩
  | [], _ :: _, h => h
  | _ :: _, [], h => h
theorem sx_St.cons {b : Nat → Nat} {ad : List Nat} {rs : List Int32} {v : Nat} {S : List Nat} {st : List Value} (h : sx_St b ad rs (v :: S) st) : ∃ x st', st = x :: st' ∧ sx_V b ad rs v x ∧ sx_St b ad rs S st' := by
  cases st with
  | nil => exact h.elim
  | cons x t => exact ⟨x, t, rfl, h.1, h.2⟩
theorem sx_St.nil {b : Nat → Nat} {ad : List Nat} {rs : List Int32} {st : List Value} (h : sx_St b ad rs [] st) : st = [] := by
  cases st with
  | nil => rfl
  | cons x t => exact h.elim
theorem sx_St.sum {b : Nat → Nat} {ad : List Nat} {rs : List Int32} : ∀ {S : List Nat} {st : List Value}, sx_St b ad rs S st → (st.map fun v => v.category).sum ≤ 2 * S.length
  | [], [], _ => by simp
  | v :: S, x :: st, h => by
    have h1 := sx_St.sum h.2
    have h2 := h.1.c2
    simp only [List.map_cons, List.sum_cons, List.length_cons]
    omega
  | [], _ :: _, h => h.elim
  | _ :: _, [], h => h.elim
theorem sx_St.len {b : Nat → Nat} {ad : List Nat} {rs : List Int32} : ∀ {S : List Nat} {st : List Value}, sx_St b ad rs S st → st.length = S.length
  | [], [], _ => rfl
  | v :: S, x :: st, h => by simp [sx_St.len h.2]
  | [], _ :: _, h => h.elim
  | _ :: _, [], h => h.elim
