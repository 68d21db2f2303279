/-! sx: the heads of loops -/
section SXHead
variable {N : Nat} {ih : sx_ih} {w d mi pc n cs ss : Nat} {lst : List sx_I} {L S : List Nat} {h : sx_H} {sy : sx_Y} {outs : List sx_O}
variable {p : Program} {l : Launch} {e : Env} {R : Room} {s : State} {m : MethodId} {args : Array Value} {below : List Frame} {meth : Method} {c : Code} {D : va_G} {K : ClassId → FieldType → Prop} {b : Nat → Nat} {xs : Nat → Int32} {A : Nat → Prop} {q : sx_M}
variable {ad : List Nat} {rs : List Int32} {ls : Array Slot} {st : List Value} {H : Heap} {locs : List Loc} {cells slots : Nat} {Q : State → Prop}
theorem sx_rng_ok {v lo hi : Nat} {x : Value} (h : sx_rng sy v lo hi = true) (hy : sx_Yok rs sy) (hv : sx_V b ad rs v x) : ∃ z, x = .int z ∧ lo ≤ sx_b z ∧ sx_b z ≤ hi := by
  unfold sx_rng at h
  cases h0 : Nat.beq (sx_tg v) 0 with
  | true =>
    rw [h0, sx_if_t] at h
    obtain ⟨h1, h2⟩ := sx_and_ok h
    have e := hv.t0 (sx_beq h0)
    exact ⟨_, e, by rw [sx_b_ofNat]; exact sx_ble h1, by rw [sx_b_ofNat]; exact sx_ble h2⟩
  | false =>
    rw [h0, sx_if_f] at h
    cases h1 : Nat.beq (sx_tg v) 1 with
    | false => rw [h1, sx_if_f] at h; cases h
    | true =>
      rw [h1, sx_if_t, sx_nth_eq] at h
      obtain ⟨z, hz, e⟩ := hv.t1 (sx_beq h1)
      obtain ⟨en, hen, e1, e2, -⟩ := hy.at hz
      rw [show sy[sx_pl v]? = some en from hen] at h
      obtain ⟨h2, h3⟩ := sx_and_ok h
      exact ⟨z, e, Nat.le_trans (sx_ble h2) e1, Nat.le_trans e2 (sx_ble h3)⟩
theorem sx_Vre {rs' : List Int32} {k0 v : Nat} {x : Value} (hv : sx_V b ad rs v x) (hs : v % 8 = 1 → v / 8 < k0) (hr : ∀ k, k < k0 → rs'[k]? = rs[k]?) : sx_V b ad rs' v x := by
  rcases hv with h | ⟨h, z, h1, h2⟩ | h | h | h | h | h
  · exact Or.inl h
  · exact Or.inr (Or.inl ⟨h, z, by rw [hr _ (hs h)]; exact h1, h2⟩)
  · exact Or.inr (Or.inr (Or.inl h))
  · exact Or.inr (Or.inr (Or.inr (Or.inl h)))
  · exact Or.inr (Or.inr (Or.inr (Or.inr (Or.inl h))))
  · exact Or.inr (Or.inr (Or.inr (Or.inr (Or.inr (Or.inl h)))))
  · exact Or.inr (Or.inr (Or.inr (Or.inr (Or.inr (Or.inr h)))))
theorem sx_Vsy {v : Nat} {x : Value} (hv : sx_V b ad rs v x) (h : v % 8 = 1) : v / 8 < rs.length := by
  obtain ⟨z, hz, -⟩ := hv.t1 h
  exact (List.getElem?_eq_some_iff.mp hz).1
theorem sx_Ere {rs' : List Int32} {k0 : Nat} {cc : Nat × Nat} {en : va_E} (hE : sx_E K b ad rs cc en) (hs : ∀ j, j < cc.1 / 256 → sx_get cc.2 j % 8 = 1 → sx_get cc.2 j / 8 < k0) (hr : ∀ k, k < k0 → rs'[k]? = rs[k]?) : sx_E K b ad rs' cc en := by
  rcases hE with ⟨ci, fs, h1, h2, h3, h4, h5⟩ | ⟨cA, f, h1, h2, h3, h4⟩ | h | h
  · exact Or.inl ⟨ci, fs, h1, h2, h3, h4, fun j v hv => sx_Vre (h5 j v hv) (hs j (by rw [← h4]; exact (List.getElem?_eq_some_iff.mp hv).1)) hr⟩
  · exact Or.inr (Or.inl ⟨cA, f, h1, h2, h3, fun j hj => sx_Vre (h4 j hj) (hs j hj) hr⟩)
  · exact Or.inr (Or.inr (Or.inl h))
  · exact Or.inr (Or.inr (Or.inr h))
theorem sx_Esy {cc : Nat × Nat} {en : va_E} (hE : sx_E K b ad rs cc en) {j : Nat} (hj : j < cc.1 / 256) (h8 : sx_get cc.2 j % 8 = 1) : sx_get cc.2 j / 8 < rs.length := by
  rcases hE with ⟨ci, fs, h1, h2, h3, h4, h5⟩ | ⟨cA, f, h1, h2, h3, h4⟩ | ⟨cA, f, h1, h2, h3, h4⟩ | ⟨cA, f, h1, h2, h3, h4⟩
  · exact sx_Vsy (h5 j _ (List.getElem?_eq_getElem (by rw [h4]; exact hj))) h8
  · exact sx_Vsy (h4 j hj) h8
  · have := (h4 j hj).1; omega
  · rcases h4 j hj with q | ⟨q, -, q2, -⟩
    · rw [q.1] at h8; omega
    · omega
theorem sx_Eset {cc : Nat × Nat} {en : va_E} {j lo hi : Nat} (hE : sx_E K b ad rs cc en) (hy : sx_Yok rs sy) (h99 : cc.1 % 256 ≤ 100) (hj : j < cc.1 / 256) (hg : sx_rng sy (sx_get cc.2 j) lo hi = true) :
    ∃ z, lo ≤ sx_b z ∧ sx_b z ≤ hi ∧ ∀ (rs' : List Int32) (u k0 : Nat), u % 8 = 1 → u ≤ 1000000 → rs'[u / 8]? = some z → (∀ i, i < cc.1 / 256 → i ≠ j → sx_get cc.2 i % 8 = 1 → sx_get cc.2 i / 8 < k0) → (∀ k, k < k0 → rs'[k]? = rs[k]?) → sx_E K b ad rs' (cc.1, sx_set cc.2 j u) en := by
  rcases hE with ⟨ci, fs, h1, h2, h3, h4, h5⟩ | ⟨cA, f, h1, h2, h3, h4⟩ | ⟨cA, f, h1, h2, h3, h4⟩ | ⟨cA, f, h1, h2, h3, h4⟩
  · have hl : j < fs.length := by rw [h4]; exact hj
    obtain ⟨z, hz, z1, z2⟩ := sx_rng_ok hg hy (h5 j _ (List.getElem?_eq_getElem hl))
    refine ⟨z, z1, z2, fun rs' u k0 hu hu2 hz2 hs hr => Or.inl ⟨ci, fs, h1, h2, h3, h4, fun i v hv => ?_⟩⟩
    have hu72 : u < 2 ^ 72 := Nat.lt_of_le_of_lt hu2 (by decide)
    by_cases hij : i = j
    · subst hij
      rw [List.getElem?_eq_getElem hl, hz] at hv
      cases hv
      show sx_V b ad rs' (sx_get (sx_set cc.2 i u) i) _
      rw [sx_get_set hu72]
      exact Or.inr (Or.inl ⟨hu, z, hz2, rfl⟩)
    · show sx_V b ad rs' (sx_get (sx_set cc.2 j u) i) _
      rw [sx_get_set_ne hu72 hij]
      exact sx_Vre (h5 i v hv) (hs i (by rw [← h4]; exact (List.getElem?_eq_some_iff.mp hv).1) hij) hr
  · obtain ⟨z, hz, z1, z2⟩ := sx_rng_ok hg hy (h4 j hj)
    have hz : f j = z := by cases hz; rfl
    refine ⟨z, z1, z2, fun rs' u k0 hu hu2 hz2 hs hr => Or.inr (Or.inl ⟨cA, f, h1, h2, h3, fun i hi => ?_⟩)⟩
    have hu72 : u < 2 ^ 72 := Nat.lt_of_le_of_lt hu2 (by decide)
    by_cases hij : i = j
    · subst hij
      show sx_V b ad rs' (sx_get (sx_set cc.2 i u) i) _
      rw [sx_get_set hu72]
      exact Or.inr (Or.inl ⟨hu, z, hz2, by rw [hz]⟩)
    · show sx_V b ad rs' (sx_get (sx_set cc.2 j u) i) _
      rw [sx_get_set_ne hu72 hij]
      exact sx_Vre (h4 i hi) (hs i hi hij) hr
  · omega
  · omega
/-- a place of the cells and a local get symbols -/
theorem sx_pla_ok {c0 j0 u lo hi r v lr hr' n : Nat} {K' : List Nat → sx_H → sx_R} (hr : sx_pla c0 j0 u lo hi r v lr hr' n sy L h K' = some outs) (hLc : sx_Lc b ad rs L ls) (hY : sx_Yok rs sy) (hG : sx_G D K b A ad rs h n H) :
    ∃ (z1 z2 : Int32) (h' : sx_H), K' (L.set r v) h' = some outs ∧ r < L.length ∧ u ≤ 1000000 ∧ lr ≤ sx_b z1 ∧ sx_b z1 ≤ hr' ∧ lo ≤ sx_b z2 ∧ sx_b z2 ≤ hi ∧ (∀ x, ls[r]? = some (Slot.val x) → x = .int z1) ∧ sx_V b ad rs (sx_ln L r) (.int z1) ∧
      (∀ k j, k < n → j < (sx_rd h' k).1 / 256 → ¬ (k = c0 ∧ j = j0) → (j < (sx_rd h k).1 / 256 ∧ sx_get (sx_rd h' k).2 j = sx_get (sx_rd h k).2 j)) ∧
      (∀ (rs' : List Int32) (L0 : List Nat) (k0 : Nat), L0.length = L.length → (∀ i w : Nat, L0[i]? = some w → w ≠ 7 → (L.set r v)[i]? = some w) → v % 8 = 1 → rs'[v / 8]? = some z1 → (∀ i w : Nat, L0[i]? = some w → i ≠ r → w % 8 = 1 → w / 8 < k0) → (∀ k, k < k0 → rs'[k]? = rs[k]?) → sx_Lc b ad rs' L0 ls) ∧
      (∀ (rs' : List Int32) (k0 : Nat), u % 8 = 1 → rs'[u / 8]? = some z2 → (∀ k j, k < n → j < (sx_rd h' k).1 / 256 → ¬ (k = c0 ∧ j = j0) → sx_get (sx_rd h' k).2 j % 8 = 1 → sx_get (sx_rd h' k).2 j / 8 < k0) → (∀ k, k < k0 → rs'[k]? = rs[k]?) → sx_G D K b A ad rs' h' n H) := by
  unfold sx_pla at hr
  obtain ⟨hc, hr⟩ := sx_if_ok hr
  obtain ⟨c1, hc⟩ := sx_and_ok hc
  obtain ⟨c2, hc⟩ := sx_and_ok hc
  obtain ⟨c3, c4⟩ := sx_and_ok hc
  have c2 : r < L.length := sx_blt c2
  have c3 : c0 < n := sx_blt c3
  have c4 : u ≤ 1000000 := sx_ble c4
  rw [sx_rdK_eq] at hr
  obtain ⟨hc, hr⟩ := sx_if_ok hr
  obtain ⟨d1, hc⟩ := sx_and_ok hc
  obtain ⟨d2, d3⟩ := sx_and_ok hc
  have d1 : (sx_rd h c0).1 % 256 ≤ 100 := sx_ble d1
  have d2 : j0 < (sx_rd h c0).1 / 256 := sx_blt d2
  rw [sx_fo_eq, sx_wrK_eq, sx_stK_eq] at hr
  have hn7 : sx_ln L r ≠ 7 := by
    intro q
    rw [q] at c1
    cases c1
  obtain ⟨x1, hx1, hv1⟩ := hLc.2.2 r _ (sx_ln_at rfl hn7) hn7
  obtain ⟨z1, rfl, z1l, z1h⟩ := sx_rng_ok c1 hY hv1
  obtain ⟨ws, hP, hD, g3, g4, g5, g6⟩ := id hG
  have hcl : c0 < ws.length := by rw [← List.length_map (f := Prod.fst), g3, g4]; exact c3
  have hEc := g6 c0 _ (List.getElem?_eq_getElem hcl)
  obtain ⟨z2, z2l, z2h, hset⟩ := sx_Eset hEc hY d1 d2 d3
  have hrd : sx_rd (sx_wr h c0 ((sx_rd h c0).1, sx_set (sx_rd h c0).2 j0 u)) c0 = ((sx_rd h c0).1, sx_set (sx_rd h c0).2 j0 u) := sx_rd_wr _ _ _
  have hrn : ∀ k, k < n → k ≠ c0 → sx_rd (sx_wr h c0 ((sx_rd h c0).1, sx_set (sx_rd h c0).2 j0 u)) k = sx_rd h k := fun k hk hne => sx_rd_wr_ne _ _ (by omega) (by omega) hne
  have hu72 : u < 2 ^ 72 := Nat.lt_of_le_of_lt c4 (by decide)
  refine ⟨z1, z2, _, hr, c2, c4, z1l, z1h, z2l, z2h, fun x hx => by rw [hx1] at hx; cases hx; rfl, hv1, fun k j hk hj hne => ?_, fun rs' L0 k0 hlen hsub hv8 hz1 hs hrs => ⟨by rw [hlen]; exact hLc.1, hLc.2.1, fun i w hi h7 => ?_⟩, fun rs' k0 hu8 hz2 hs hrs => ⟨ws, hP, hD, g3, g4, g5, fun k qq hk => ?_⟩⟩
  · by_cases hkc : k = c0
    · subst hkc
      rw [hrd] at hj ⊢
      exact ⟨hj, sx_get_set_ne hu72 (fun q => hne ⟨rfl, q⟩)⟩
    · rw [hrn k hk hkc] at hj ⊢
      exact ⟨hj, rfl⟩
  · have hi2 := hsub i w hi h7
    by_cases hir : i = r
    · subst hir
      rw [List.getElem?_set_self c2] at hi2
      cases hi2
      exact ⟨_, hx1, Or.inr (Or.inl ⟨hv8, z1, hz1, rfl⟩)⟩
    · rw [List.getElem?_set_ne (fun q => hir q.symm)] at hi2
      obtain ⟨x, hx, hv⟩ := hLc.2.2 i w hi2 h7
      exact ⟨x, hx, sx_Vre hv (hs i w hi hir) hrs⟩
  · have hkn : k < n := by rw [← g4, ← g3, List.length_map]; exact (List.getElem?_eq_some_iff.mp hk).1
    by_cases hkc : k = c0
    · subst hkc
      rw [List.getElem?_eq_getElem hcl] at hk
      cases hk
      rw [hrd]
      refine hset rs' u k0 hu8 c4 hz2 (fun i hi hij h8 => ?_) hrs
      have := hs k i hkn (by rw [hrd]; exact hi) (fun q => hij q.2) (by rw [hrd]; show sx_get (sx_set _ _ _) _ % 8 = 1; rw [sx_get_set_ne hu72 hij]; exact h8)
      rw [hrd] at this
      have this : sx_get (sx_set (sx_rd h k).2 j0 u) i / 8 < k0 := this
      rw [sx_get_set_ne hu72 hij] at this
      exact this
    · have hsk := hs k
      rw [hrn k hkn hkc] at hsk ⊢
      exact sx_Ere (g6 k qq hk) (fun i hi h8 => hsk i hkn hi (fun q => hkc q.1) h8) hrs
theorem sx_lle_ok : ∀ {a z : List Nat}, sx_lle a z = true → z.length = a.length ∧ ∀ i w : Nat, z[i]? = some w → w ≠ 7 → a[i]? = some w
  | [], [], _ => ⟨rfl, fun i w h => by simp at h⟩
  | [], _ :: _, h => by cases h
  | _ :: _, [], h => by cases h
  | x :: a, y :: z, h => by
    have h : sx_and (sx_if (Nat.beq y 7) true (Nat.beq x y)) (sx_lle a z) = true := h
    obtain ⟨h1, h2⟩ := sx_and_ok h
    obtain ⟨q1, q2⟩ := sx_lle_ok h2
    refine ⟨by simp [q1], fun i w hi h7 => ?_⟩
    cases i with
    | zero =>
      simp at hi
      subst hi
      rw [sx_beq_e h7, sx_if_f] at h1
      rw [sx_beq h1]
      rfl
    | succ i =>
      rw [List.getElem?_cons_succ] at hi ⊢
      exact q2 i w hi h7
theorem sx_q4_ok {α : Type} {eq : α → α → Bool} (he : ∀ a z, eq a z = true → a = z) : ∀ {t u : sx_Q α}, sx_q4 eq t u = true → t = u
  | (a, b0, c0, d0), (a2, b2, c2, d2), h => by
    have h : sx_and (eq a a2) (sx_and (eq b0 b2) (sx_and (eq c0 c2) (eq d0 d2))) = true := h
    obtain ⟨h1, h⟩ := sx_and_ok h
    obtain ⟨h2, h⟩ := sx_and_ok h
    obtain ⟨h3, h4⟩ := sx_and_ok h
    rw [he _ _ h1, he _ _ h2, he _ _ h3, he _ _ h4]
theorem sx_heq_ok {t u : sx_H} (h : sx_heq t u = true) : t = u :=
  sx_q4_ok (fun _ _ h => sx_q4_ok (fun _ _ h => sx_q4_ok (fun _ _ h => sx_q4_ok (fun a z h => by
    obtain ⟨a1, a2⟩ := a
    obtain ⟨b1, b2⟩ := z
    have h : sx_and (Nat.beq a1 b1) (Nat.beq a2 b2) = true := h
    obtain ⟨h1, h2⟩ := sx_and_ok h
    rw [sx_beq h1, sx_beq h2]) h) h) h) h
theorem sx_fnd_ok : ∀ {lst : List sx_I} {pc : Nat} {en : sx_I}, sx_fnd lst pc = some en → en ∈ lst ∧ en.1 = pc
  | [], _, _, h => by cases h
  | z :: t, pc, en, h => by
    have h : sx_if (Nat.beq z.1 pc) (some z) (sx_fnd t pc) = some en := h
    cases h1 : Nat.beq z.1 pc with
    | true =>
      rw [h1, sx_if_t] at h
      cases h
      exact ⟨List.mem_cons_self, sx_beq h1⟩
    | false =>
      rw [h1, sx_if_f] at h
      obtain ⟨q1, q2⟩ := sx_fnd_ok h
      exact ⟨List.mem_cons_of_mem _ q1, q2⟩
theorem sx_St.nil' (h : sx_St b ad rs [] st) : st = [] := h.nil
theorem sx_res_ok {ty i j k n : Nat} {F : Nat → Nat → sx_R} (hr : sx_res ty i j k n L h F = some outs) : ∃ c0 j0, F c0 j0 = some outs := by
  unfold sx_res at hr
  cases h0 : Nat.beq ty 0 with
  | true => rw [h0, sx_if_t, sx_fo_eq] at hr; exact ⟨_, _, hr⟩
  | false =>
    rw [h0, sx_if_f, sx_fo_eq] at hr
    obtain ⟨-, hr⟩ := sx_if_ok hr
    cases h1 : Nat.beq ty 1 with
    | true => rw [h1, sx_if_t, sx_fo_eq] at hr; exact ⟨_, _, hr⟩
    | false =>
      rw [h1, sx_if_f, sx_rdK_eq, sx_fo_eq] at hr
      obtain ⟨-, hr⟩ := sx_if_ok hr
      rw [sx_fo_eq] at hr
      exact ⟨_, _, hr⟩
theorem sx_sBck (IH : sx_Ok N ih) (hC : sx_Cx p e R s m meth c D K b N xs A mi d q) (hA : sx_At R s c D K b N xs A ad rs cells slots locs L S h n sy cs ss ls st H) (hL : sx_Ls p l e R s m args below meth c D K b N xs A Q ad rs lst) (hQ : ∀ o ∈ outs, ∀ t, sx_En R s below D K b A ad rs o t → Q t)
    {L0 S0 : List Nat} {h0 : sx_H} {n0 : Nat} {sy0 : sx_Y} {k0 r : Nat} {pl : List (Nat × Nat × Nat)} {cs0 ss0 : Nat} (hmem : (pc, L0, S0, h0, n0, sy0, k0, r, pl, cs0, ss0) ∈ lst) (hr : sx_bck (pc, L0, S0, h0, n0, sy0, k0, r, pl, cs0, ss0) L S h n sy cs ss = some outs) : W p l e R s m args below meth c H locs cells slots Q (F0 m pc ls st) := by
  obtain ⟨-, hx, -, hb, hml, -, -, -, hown, -, hT, -⟩ := id hC
  obtain ⟨hLc, hSt, hrest⟩ := id hA
  obtain ⟨rp, z1, z2, yp, c0, j0, l1, u1, l2, u2, rfl, q2, q3, q4, rfl, q6, q7, q8, q9, q10⟩ := hL _ _ _ _ _ _ _ _ _ _ _ hmem
  have hr : sx_if (sx_and (sx_rk sy (sx_ln L r) (sx_ln L0 r)) (sx_and (Nat.beq n n0) (sx_and (Nat.beq cs cs0) (Nat.beq ss ss0))))
      (sx_nil' S (Option.rec none (fun e1 => Option.rec none (fun e2 => sx_pla c0 j0 (Nat.add (Nat.mul 8 (Nat.succ k0)) 1) e2.1 e2.2.1 r (Nat.add (Nat.mul 8 k0) 1) e1.1 e1.2.1 n sy L h (fun L h => sx_if (sx_and (sx_lle L L0) (sx_heq h h0)) (some []) none)) (sx_nth (yp ++ [(l1, u1, 0, 0), (l2, u2, 0, 0)]) (Nat.succ k0))) (sx_nth (yp ++ [(l1, u1, 0, 0), (l2, u2, 0, 0)]) k0))) none = some outs := hr
  obtain ⟨hc, hv⟩ := sx_if_ok hr
  clear hr
  obtain ⟨hrk, hc⟩ := sx_and_ok hc
  obtain ⟨e1, hc⟩ := sx_and_ok hc
  obtain ⟨e2, e3⟩ := sx_and_ok hc
  have e1 := sx_beq e1
  have e2 := sx_beq e2
  have e3 := sx_beq e3
  subst e1 e2 e3
  cases S with
  | cons _ _ => cases hv
  | nil =>
  have hst := hSt.nil
  subst hst
  have hyl : yp.length = k0 := by rw [← q4.1]; exact q2
  have hv : (Option.rec none (fun e1 => Option.rec none (fun e2 => sx_pla c0 j0 (Nat.add (Nat.mul 8 (Nat.succ k0)) 1) e2.1 e2.2.1 r (Nat.add (Nat.mul 8 k0) 1) e1.1 e1.2.1 n sy L h (fun L h => sx_if (sx_and (sx_lle L L0) (sx_heq h h0)) (some []) none)) (sx_nth (yp ++ [(l1, u1, 0, 0), (l2, u2, 0, 0)]) (Nat.succ k0))) (sx_nth (yp ++ [(l1, u1, 0, 0), (l2, u2, 0, 0)]) k0) : sx_R) = some outs := hv
  rw [sx_nth_eq, sx_nth_eq] at hv
  have g1 : (yp ++ [(l1, u1, 0, 0), (l2, u2, 0, 0)])[k0]? = some (l1, u1, 0, 0) := by rw [List.getElem?_append_right (by omega), hyl, Nat.sub_self]; rfl
  have g2 : (yp ++ [(l1, u1, 0, 0), (l2, u2, 0, 0)])[Nat.succ k0]? = some (l2, u2, 0, 0) := by rw [List.getElem?_append_right (by omega), hyl, show Nat.succ k0 - k0 = 1 by omega]; rfl
  rw [g1, g2] at hv
  obtain ⟨hY, hG, hS, hxs, hr1, hr2, hr3⟩ := id hrest
  obtain ⟨y1, y2, h', hr, p1, p2, p3, p4, p5, p6, -, p8, p9, p10, p11⟩ := sx_pla_ok hv hLc hY hG
  obtain ⟨hc, -⟩ := sx_if_ok hr
  obtain ⟨hl, hh⟩ := sx_and_ok hc
  have hh := sx_heq_ok hh
  subst hh
  obtain ⟨w1, w2⟩ := sx_lle_ok hl
  have same : ∀ k, k < k0 → (rp ++ [y1, y2])[k]? = rs[k]? := fun k hk => by
    rw [List.getElem?_append_left (by omega), ← List.getElem?_append_left (l₂ := [z1, z2]) (by omega), List.getElem?_eq_getElem (by simp; omega)]
    exact (sx_pre q3 (List.getElem?_eq_getElem (by simp; omega))).symm
  have hk1 : (rp ++ [y1, y2])[(8 * k0 + 1) / 8]? = some y1 := by rw [show (8 * k0 + 1) / 8 = k0 by omega, List.getElem?_append_right (by omega), q2, Nat.sub_self]; rfl
  have hk2 : (rp ++ [y1, y2])[(8 * (k0 + 1) + 1) / 8]? = some y2 := by rw [show (8 * (k0 + 1) + 1) / 8 = k0 + 1 by omega, List.getElem?_append_right (by omega), q2, show k0 + 1 - k0 = 1 by omega]; rfl
  have hYY : sx_Yok (rp ++ [y1, y2]) (yp ++ [(l1, u1, 0, 0), (l2, u2, 0, 0)]) := by
    have := (q4.fr (pr := 0) (off := 0) p3 p4 (fun h => absurd rfl h)).fr (pr := 0) (off := 0) p5 p6 (fun h => absurd rfl h)
    rw [List.append_assoc, List.append_assoc] at this
    exact this
  refine q10 ad y1 y2 ls [] H locs cells slots List.prefix_rfl ⟨p10 _ L0 k0 (by rw [w1, List.length_set]) w2 (by show (8 * k0 + 1) % 8 = 1; omega) hk1 q8 same, trivial, hYY, p11 _ k0 (by show (8 * (k0 + 1) + 1) % 8 = 1; omega) hk2 q9 same, hS, fun k hk => ?_, hr1, hr2, by rw [w1, List.length_set]; exact hr3⟩ ?_
  · have hkl := (List.getElem?_eq_some_iff.mp (q6 k hk)).1
    rw [List.getElem?_append_left hkl]
    exact q6 k hk
  · unfold sx_rk at hrk
    obtain ⟨t1, hrk⟩ := sx_and_ok hrk
    obtain ⟨-, hrk⟩ := sx_and_ok hrk
    obtain ⟨zz, hzz, hzy⟩ := p8.t1 (sx_beq t1)
    cases hzy
    obtain ⟨en, hen, -, -, en3⟩ := hY.at hzz
    rw [sx_nth_eq, show sy[sx_pl (sx_ln L r)]? = some en from hen] at hrk
    obtain ⟨t2, t3⟩ := sx_and_ok hrk
    have t2 : en.2.2.1 = Nat.succ (sx_pl (sx_ln L0 r)) := sx_beq t2
    have t3 : 0 < en.2.2.2 := sx_blt t3
    rw [sx_ln_eq, List.getD_eq_getElem?_getD, q7] at t2
    have t2 : en.2.2.1 = Nat.succ ((8 * k0 + 1) / 8) := t2
    obtain ⟨yy, hyy, hlt⟩ := en3.1 (by omega)
    rw [t2, Nat.succ_sub_one, show (8 * k0 + 1) / 8 = k0 by omega] at hyy
    have : rs[k0]? = some z1 := sx_pre q3 (by rw [List.getElem?_append_right (by omega), q2, Nat.sub_self]; rfl)
    cases this.symm.trans hyy
    omega
theorem sx_sOpen (IH : sx_Ok N ih) (hC : sx_Cx p e R s m meth c D K b N xs A mi d q) (hA : sx_At R s c D K b N xs A ad rs cells slots locs L S h n sy cs ss ls st H) (hL : sx_Ls p l e R s m args below meth c D K b N xs A Q ad rs lst) (hQ : ∀ o ∈ outs, ∀ t, sx_En R s below D K b A ad rs o t → Q t)
    {r : Nat} {e1 e2 : Nat × Nat × Nat × Nat × Nat × Nat} (hr : sx_open ih d mi (sx_mt mi).1 lst pc L S h n sy cs ss r e1 e2 = some outs) : W p l e R s m args below meth c H locs cells slots Q (F0 m pc ls st) := by
  obtain ⟨-, hx, -, hb, hml, -, -, -, hown, -, hT, -⟩ := id hC
  obtain ⟨hLc, hSt, hrest⟩ := id hA
  unfold sx_open at hr
  rw [sx_fo_eq] at hr
  cases S with
  | cons _ _ => cases hr
  | nil =>
  have hst := hSt.nil
  subst hst
  rw [show ∀ x : sx_R, sx_nil' [] x = x from fun _ => rfl] at hr
  obtain ⟨c0, j0, hr⟩ := sx_res_ok hr
  obtain ⟨hY, hG, hS, hxs, hr1, hr2, hr3⟩ := id hrest
  obtain ⟨z1, z2, h', hr, p1, p2, p3, p4, p5, p6, -, p8, p9, p10, p11⟩ := sx_pla_ok hr hLc hY hG
  simp only [sx_fo_eq] at hr
  have hlen : sy.length = rs.length := hY.1.symm
  rw [hlen] at hr p2 p10 p11
  have fL : ∀ i v, (L.set r (8 * rs.length + 1))[i]? = some v → i ≠ r → v % 8 = 1 → v / 8 < rs.length := fun i v hi hir h8 => by
    rw [List.getElem?_set_ne (fun q => hir q.symm)] at hi
    obtain ⟨x, -, hv⟩ := hLc.2.2 i v hi (fun q => by omega)
    exact sx_Vsy hv h8
  have fH : ∀ k j, k < n → j < (sx_rd h' k).1 / 256 → ¬ (k = c0 ∧ j = j0) → sx_get (sx_rd h' k).2 j % 8 = 1 → sx_get (sx_rd h' k).2 j / 8 < rs.length := fun k j hk hj hne h8 => by
    obtain ⟨t1, t2⟩ := p9 k j hk hj hne
    rw [t2] at h8 ⊢
    obtain ⟨ws, -, -, g3, g4, -, g6⟩ := hG
    have hkl : k < ws.length := by rw [← List.length_map (f := Prod.fst), g3, g4]; exact hk
    exact sx_Esy (g6 k _ (List.getElem?_eq_getElem hkl)) t1 h8
  have same : ∀ y1 y2 : Int32, ∀ k, k < rs.length → (rs ++ [y1, y2])[k]? = rs[k]? := fun y1 y2 k hk => List.getElem?_append_left hk
  have hk1 : ∀ y1 y2 : Int32, (rs ++ [y1, y2])[(8 * rs.length + 1) / 8]? = some y1 := fun y1 y2 => by rw [show (8 * rs.length + 1) / 8 = rs.length by omega, List.getElem?_append_right (by omega), Nat.sub_self]; rfl
  have hk2 : ∀ y1 y2 : Int32, (rs ++ [y1, y2])[(8 * (rs.length + 1) + 1) / 8]? = some y2 := fun y1 y2 => by rw [show (8 * (rs.length + 1) + 1) / 8 = rs.length + 1 by omega, List.getElem?_append_right (by omega), show rs.length + 1 - rs.length = 1 by omega]; rfl
  have main : ∀ (mm : Nat) (ad' : List Nat) (y1 y2 : Int32) (ls' : Array Slot) (st' : List Value) (H' : Heap) (locs' : List Loc) (cells' slots' : Nat), 4294967296 - sx_b y1 ≤ mm → ad <+: ad' → sx_At R s c D K b N xs A ad' (rs ++ [y1, y2]) cells' slots' locs' (L.set r (8 * rs.length + 1)) [] h' n (sy ++ [(e1.2.2.2.2.1, e1.2.2.2.2.2, 0, 0), (e2.2.2.2.2.1, e2.2.2.2.2.2, 0, 0)]) cs ss ls' st' H' →
      W p l e R s m args below meth c H' locs' cells' slots' Q (F0 m pc ls' st') := by
    intro mm
    induction mm with
    | zero =>
      intro ad' y1 y2 ls' st' H' locs' cells' slots' hm ha hat
      have := sx_b_lt y1
      omega
    | succ mm ihm =>
      intro ad' y1 y2 ls' st' H' locs' cells' slots' hm ha hat
      have hpr : rs <+: rs ++ [y1, y2] := List.prefix_append _ _
      refine IH d mi _ true pc _ [] h' n _ cs ss outs hr p l e R s m args below meth c D K b xs A q ad' (rs ++ [y1, y2]) ls' st' H' locs' cells' slots' Q hC hat ?_ (fun o ho t ht => hQ o ho t (ht.mono ha hpr))
      intro pc0 L0 S0 h0 n0 sy0 k0 r0 pl cs0 ss0 hi
      rcases List.mem_cons.mp hi with hi | hi
      · cases hi
        refine ⟨rs, y1, y2, sy, c0, j0, _, _, _, _, rfl, rfl, List.prefix_rfl, hY, rfl, hxs, by rw [List.getElem?_set_self p1]; rfl, fL, fH, fun ad2 x1 x2 ls2 st2 H2 locs2 cells2 slots2 a1 a2 a3 => ihm ad2 x1 x2 ls2 st2 H2 locs2 cells2 slots2 (by have := sx_b_lt x1; have := sx_b_lt y1; omega) (ha.trans a1) a2⟩
      · exact (hL.mono ha hpr) pc0 L0 S0 h0 n0 sy0 k0 r0 pl cs0 ss0 hi
  have hYY : sx_Yok (rs ++ [z1, z2]) (sy ++ [(e1.2.2.2.2.1, e1.2.2.2.2.2, 0, 0), (e2.2.2.2.2.1, e2.2.2.2.2.2, 0, 0)]) := by
    have := (hY.fr (pr := 0) (off := 0) p3 p4 (fun h => absurd rfl h)).fr (pr := 0) (off := 0) p5 p6 (fun h => absurd rfl h)
    rw [List.append_assoc, List.append_assoc] at this
    exact this
  refine main _ ad z1 z2 ls [] H locs cells slots (Nat.le_refl _) List.prefix_rfl ⟨p10 _ _ rs.length (by rw [List.length_set]) (fun i w hi _ => hi) (by show (8 * rs.length + 1) % 8 = 1; omega) (hk1 z1 z2) fL (same z1 z2), trivial, hYY, p11 _ rs.length (by show (8 * (rs.length + 1) + 1) % 8 = 1; omega) (hk2 z1 z2) fH (same z1 z2), hS, fun k hk => ?_, hr1, hr2, by rw [List.length_set]; exact hr3⟩
  rw [List.getElem?_append_left (List.getElem?_eq_some_iff.mp (hxs k hk)).1]
  exact hxs k hk
theorem sx_sHead (IH : sx_Ok N ih) (hC : sx_Cx p e R s m meth c D K b N xs A mi d q) (hA : sx_At R s c D K b N xs A ad rs cells slots locs L S h n sy cs ss ls st H) (hL : sx_Ls p l e R s m args below meth c D K b N xs A Q ad rs lst) (hQ : ∀ o ∈ outs, ∀ t, sx_En R s below D K b A ad rs o t → Q t)
    (hr : sx_head ih d mi (sx_mt mi).1 lst pc L S h n sy cs ss = some outs) : W p l e R s m args below meth c H locs cells slots Q (F0 m pc ls st) := by
  obtain ⟨-, hx, -, hb, hml, -, -, -, hown, -, hT, -⟩ := id hC
  obtain ⟨hLc, hSt, hrest⟩ := id hA
  unfold sx_head at hr
  cases hf : sx_fnd lst pc with
  | some en =>
    rw [hf] at hr
    obtain ⟨h1, h2⟩ := sx_fnd_ok hf
    obtain ⟨pc0, L0, S0, h0, n0, sy0, k0, r0, pl, cs0, ss0⟩ := en
    have h2 : pc0 = pc := h2
    subst h2
    exact sx_sBck IH hC hA hL hQ h1 hr
  | none =>
    rw [hf] at hr
    cases hz : sx_fiv sx_ivs mi pc with
    | none => rw [hz] at hr; cases hr
    | some z =>
    rw [hz] at hr
    obtain ⟨z1, z2⟩ := z
    cases z2 with
    | nil => cases hr
    | cons e1 t =>
      cases t with
      | nil => cases hr
      | cons e2 t => exact sx_sOpen IH hC hA hL hQ hr
end SXHead
