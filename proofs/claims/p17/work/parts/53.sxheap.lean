/-! sx: fields -/
section SXHeap
variable {N : Nat} {ih : sx_ih} {w d mi pc n cs ss : Nat} {lst : List sx_I} {L S : List Nat} {h : sx_H} {sy : sx_Y} {outs : List sx_O}
variable {p : Program} {l : Launch} {e : Env} {R : Room} {s : State} {m : MethodId} {args : Array Value} {below : List Frame} {meth : Method} {c : Code} {D : va_G} {K : ClassId → FieldType → Prop} {b : Nat → Nat} {xs : Nat → Int32} {A : Nat → Prop} {q : sx_M}
variable {ad : List Nat} {rs : List Int32} {ls : Array Slot} {st : List Value} {H : Heap} {locs : List Loc} {cells slots : Nat} {Q : State → Prop}
theorem sx_ix_ok {i : Nat} {X : Value} {k : Nat → sx_Y → sx_R} (h : sx_ix i sy k = some outs) (hy : sx_Yok rs sy) (hv : sx_V b ad rs i X) : ∃ x sy' outs', X = .int (Int32.ofNat x) ∧ k x sy' = some outs' ∧ (∀ o ∈ outs', o ∈ outs) ∧ sx_Yok rs sy' ∧ sy'.length = sy.length := by
  unfold sx_ix at h
  obtain ⟨i', h, hv', -⟩ := sx_nm_ok h hy hv
  cases h0 : Nat.beq (sx_tg i') 0 with
  | true =>
    rw [h0, sx_if_t] at h
    exact ⟨_, sy, outs, hv'.t0 (sx_beq h0), h, fun _ h => h, hy, rfl⟩
  | false =>
    rw [h0, sx_if_f] at h
    obtain ⟨h1, h⟩ := sx_if_ok h
    obtain ⟨e, he, h⟩ := sx_opt_ok (show _ = some outs from h)
    rw [sx_nth_eq] at he
    obtain ⟨z, hz, rfl⟩ := hv'.t1 (sx_beq h1)
    obtain ⟨r1, r2, -⟩ := hy.2 _ z e hz he
    obtain ⟨s1, o1, a1, a2, a3, a4, ⟨u, v, a5⟩, -⟩ := sx_en_ok h hy hz r1 r2
    obtain ⟨e3, he3, a1⟩ := sx_opt_ok (show _ = some o1 from a1)
    rw [sx_nth_eq] at he3
    cases he3.symm.trans a5
    rw [sx_fo_eq] at a1
    exact ⟨_, s1, o1, by rw [sx_b_back], a1, a2, a3, a4⟩
theorem sx_in_ok {x n : Nat} (h : x < n) (hn : n ≤ 5000) : vp_in (Int32.ofNat x) n ∧ (Int32.ofNat x).toNatClampNeg = x := ⟨vp_in_nI h (by omega), nI_clamp (n := x) (by omega)⟩
theorem sx_KA {cA : ClassId} {ty : FieldType} (hT : sx_Tb D K s) (hk : K cA ty) : va_K D sx_classes [(cA, ty)] s := by
  obtain ⟨-, -, -, -, -, h6, h7⟩ := hT
  refine ⟨h6.1, fun k q hq => ?_⟩
  have hz : k < 1 := (List.getElem?_eq_some_iff.mp hq).1
  rw [show k = 0 by omega] at hq
  cases hq
  exact (h7 cA ty).mp hk
theorem sx_slot_ok {ci k : Nat} (hk : k < 170) (h : sx_slot ci k ≠ 0) : ci < 12 ∧ sx_rF ci k = true := by
  have h1 : ci < 12 := by
    rcases Nat.lt_or_ge ci 12 with q | q
    · exact q
    · exfalso
      apply h
      show (sx_fields >>> (8 * (ci * 256 + k))) % 256 = 0
      have hb := of_decide_eq_true sx_big_ok
      have h2 : sx_fields < 2 ^ (8 * (ci * 256 + k)) := Nat.lt_of_lt_of_le hb (Nat.pow_le_pow_right (by decide) (by omega))
      rw [Nat.shiftRight_eq_div_pow, Nat.div_eq_of_lt h2]
  exact ⟨h1, List.all_eq_true.mp (List.all_eq_true.mp sx_rF_ok ci (List.mem_range.mpr h1)) k (List.mem_range.mpr hk)⟩
/-- a field by a link: its row, its class, its place, how the link's class stands to it, its kind -/
theorem sx_field {ci k : Nat} {t : String × Nat × String × String × String} (ht : sx_fl[k]? = some t) (h : sx_slot ci k ≠ 0) : ∃ C, sx_classes[ci]? = some C ∧ 0 < sx_slot ci k % 32 ∧ sx_slot ci k % 32 - 1 < C.2.2 ∧ (C.2.1 (sx_slot ci k % 32 - 1)).2.1 = t.2.2.2.1 ∧ (C.2.1 (sx_slot ci k % 32 - 1)).2.2.1 = t.2.2.2.2 ∧
    (t.2.2.1 = (C.2.1 (sx_slot ci k % 32 - 1)).1 ∨ Cond.sameField t.2.2.1 (C.2.1 (sx_slot ci k % 32 - 1)).1 t.2.2.2.1 t.2.2.2.2 ∈ sx_wl) ∧
    (if sx_slot ci k / 32 = 0 then (C.2.1 (sx_slot ci k % 32 - 1)).2.2.1 = "I" else if sx_slot ci k / 32 = 1 then (C.2.1 (sx_slot ci k % 32 - 1)).2.2.1 = "Z" else ((∃ x, sx_fty (C.2.1 (sx_slot ci k % 32 - 1)).2.2.1 = .object x) ∨ ∃ x, sx_fty (C.2.1 (sx_slot ci k % 32 - 1)).2.2.1 = .array x)) := by
  have hk : k < 170 := by rw [← sx_fl_len.1]; exact (List.getElem?_eq_some_iff.mp ht).1
  obtain ⟨-, h1⟩ := sx_slot_ok hk h
  unfold sx_rF at h1
  dsimp only at h1
  rw [if_neg h] at h1
  obtain ⟨t', ht', h1⟩ := sx_oa_ok h1
  cases ht.symm.trans ht'
  obtain ⟨C, hC, h1⟩ := sx_oa_ok h1
  simp only [Bool.and_eq_true, Bool.or_eq_true, decide_eq_true_eq] at h1
  obtain ⟨a1, a2, a3, a4, a5, a6⟩ := h1
  refine ⟨C, hC, a1, a2, a3, a4, ?_, ?_⟩
  · rcases a5 with a5 | a5
    · exact Or.inl a5
    · exact Or.inr (sx_isW_ok (List.all_eq_true.mp sx_sames_ok _ (List.contains_iff_mem.mp a5)))
  · by_cases c0 : sx_slot ci k / 32 = 0
    · rw [if_pos c0] at a6 ⊢; exact of_decide_eq_true a6
    · rw [if_neg c0] at a6 ⊢
      by_cases c1 : sx_slot ci k / 32 = 1
      · rw [if_pos c1] at a6 ⊢; exact of_decide_eq_true a6
      · rw [if_neg c1] at a6 ⊢
        split at a6
        · rename_i x hx; exact Or.inl ⟨x, hx⟩
        · rename_i x hx; exact Or.inr ⟨x, hx⟩
        · cases a6
theorem sx_same_ok {ref own nm ds : String} (hT : sx_Tb D K s) (h : ref = own ∨ Cond.sameField ref own nm ds ∈ sx_wl) : ∀ x, s.fieldFound? own nm ds = some x → s.fieldFound? ref nm ds = some x := by
  intro x hx
  rcases h with rfl | h
  · exact hx
  · exact u_same (args := #[]) (hT.1 #[] _ h) x hx
theorem sx_sGet (IH : sx_Ok N ih) (hC : sx_Cx p e R s m meth c D K b N xs A mi d q) (hA : sx_At R s c D K b N xs A ad rs cells slots locs L S h n sy cs ss ls st H) (hL : sx_Ls p l e R s m args below meth c D K b N xs A Q ad rs lst) (hQ : ∀ o ∈ outs, ∀ t, sx_En R s below D K b A ad rs o t → Q t)
    (hk : sx_k9 q pc w = true) (hr : sx_oGet ih w d mi (sx_mt mi).1 lst pc L S h n sy cs ss = some outs) : W p l e R s m args below meth c H locs cells slots Q (F0 m pc ls st) := by
  obtain ⟨-, hx, -, hb, hml, -, -, -, hown, -, hT, -⟩ := id hC
  obtain ⟨hLc, hSt, hrest⟩ := id hA
  unfold sx_oGet at hr
  cases S with
  | nil => cases hr
  | cons v r =>
  obtain ⟨x, st', rfl, hv, hSt'⟩ := hSt.cons
  rw [sx_p1_cons] at hr
  obtain ⟨hc, hr⟩ := sx_if_ok hr
  obtain ⟨c1, -⟩ := sx_and_ok hc
  simp only [sx_rdK_eq, sx_fo_eq] at hr
  obtain ⟨a, ha, rfl⟩ := hv.t2 (sx_beq c1)
  unfold sx_k9 at hk
  obtain ⟨t, ht, hk⟩ := sx_oa_ok hk
  simp only [Bool.and_eq_true, decide_eq_true_eq] at hk
  obtain ⟨hcls, hd⟩ := hk
  cases h0 : Nat.beq (sx_slot (Nat.mod (sx_rd h (sx_pl v)).1 256) (sx_wa w)) 0 with
  | true => rw [h0] at hr; cases hr
  | false =>
  rw [h0, sx_if_f] at hr
  have hs0 : sx_slot ((sx_rd h (v / 8)).1 % 256) (sx_wa w) ≠ 0 := sx_beq_f h0
  obtain ⟨hY, hG, hrest2⟩ := id hrest
  obtain ⟨ws, e, hP, hD, g3, g4, g5, g6, he, hE⟩ := hG.at ha
  obtain ⟨C, hC1, j0, j1, f1, f2, f3, -⟩ := sx_field ht hs0
  have hci : (sx_rd h (v / 8)).1 % 256 < 12 := by rw [← sx_fl_len.2]; exact (List.getElem?_eq_some_iff.mp hC1).1
  rcases hE with ⟨ci, fs, rfl, e2, ⟨C', e3, e3b⟩, e4, e5⟩ | ⟨cA, f, -, e2, -⟩ | ⟨cA, f, -, e2, -⟩ | ⟨cA, f, -, e2, -⟩
  · rw [e2] at hC1
    cases hC1.symm.trans e3
    rw [← e2] at e3
    obtain ⟨C0, C1, C2⟩ := C
    have hj : (sx_slot ((sx_rd h (v / 8)).1 % 256) (sx_wa w)) % 32 - 1 < fs.length := by rw [← e3b]; exact j1
    obtain ⟨u, hu⟩ : ∃ u, fs[(sx_slot ((sx_rd h (v / 8)).1 % 256) (sx_wa w)) % 32 - 1]? = some u := ⟨_, List.getElem?_eq_getElem hj⟩
    have hin := sx_cls_in e3
    subst e2
    exact va_get hx hb (hT.1 args) hin.1 hown hT.2.2.2.2.2.1 hP (v / 8) he e3 _ j1 (index := t.2.1) (ref := t.2.2.1) (by rw [f1, f2, ← hcls]; exact hT.1 args _ (sx_fl_in ht)) (by rw [f1, f2]; exact sx_same_ok hT f3) hu (sx_dc_ok hd) (sx_go IH hr hC ⟨hLc, ⟨e5 _ _ hu, hSt'⟩, hrest⟩ hL List.prefix_rfl List.prefix_rfl (fun _ h => h) hQ)
  · omega
  · omega
  · omega
end SXHeap
