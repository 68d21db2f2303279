/-! sx: steps within the frame -/
def sx_all (ls : Array Slot) : List (Nat × Value) := (List.range ls.size).filterMap (fun (i : Nat) => match (ls[i]? : Option Slot) with
  | some (Slot.val v) => some (i, v)
  | _ => none)
theorem sx_all_mem {ls : Array Slot} {i : Nat} {v : Value} : (i, v) ∈ sx_all ls ↔ ls[i]? = some (.val v) := by
  unfold sx_all
  rw [List.mem_filterMap]
  constructor
  · rintro ⟨j, -, hj⟩
    split at hj
    · rename_i u hu
      cases hj
      exact hu
    · cases hj
  · intro h
    exact ⟨i, List.mem_range.mpr (Array.getElem?_eq_some_iff.mp h).1, by rw [h]⟩
theorem sx_all_has {ls : Array Slot} (hw : lv_wf ls) : lv_has ls ls.size (sx_all ls) := ⟨rfl, hw, fun q hq => sx_all_mem.mp hq⟩
section SXLoc
variable {b : Nat → Nat} {ad : List Nat} {rs : List Int32} {L : List Nat} {ls : Array Slot}
theorem sx_ln_at {i v : Nat} (h : sx_ln L i = v) (h7 : v ≠ 7) : L[i]? = some v := by
  rw [sx_ln_eq] at h
  cases hl : L[i]? with
  | none => rw [List.getD_eq_getElem?_getD, hl] at h; exact absurd h.symm h7
  | some u => rw [List.getD_eq_getElem?_getD, hl] at h; exact congrArg some h
theorem sx_Lc.at (hl : sx_Lc b ad rs L ls) {i v : Nat} (h : sx_ln L i = v) (h7 : v ≠ 7) : ∃ x : Value, ls[i]? = some (.val x) ∧ sx_V b ad rs v x := hl.2.2 i v (sx_ln_at h h7) h7
theorem sx_Lc.store1 (hl : sx_Lc b ad rs L ls) {i v : Nat} {x : Value} {ls' : Array Slot} (hv : sx_V b ad rs v x) (hi : i < L.length) (hp : i = 0 ∨ sx_ln L (i - 1) % 8 ≠ 4)
    (h' : lv_has ls' ls.size ((i, x) :: (sx_all ls).filter (fun q => !(q.1 == i) && !(q.1 + 1 == i && q.2.category == 2)))) : sx_Lc b ad rs (L.set i v) ls' := by
  refine ⟨by rw [h'.1, List.length_set]; exact hl.1, h'.2.1, fun j u hj h7 => ?_⟩
  by_cases hji : j = i
  · subst hji
    rw [List.getElem?_set_self hi] at hj
    cases hj
    exact ⟨x, h'.2.2 (j, x) List.mem_cons_self, hv⟩
  · rw [List.getElem?_set_ne (Ne.symm hji)] at hj
    obtain ⟨y, hy, hvy⟩ := hl.2.2 j u hj h7
    refine ⟨y, h'.2.2 (j, y) (List.mem_cons_of_mem _ (List.mem_filter.mpr ⟨sx_all_mem.mpr hy, ?_⟩)), hvy⟩
    have hcat : ¬ (j + 1 = i ∧ y.category = 2) := by
      rintro ⟨hj1, hc⟩
      have : sx_ln L (i - 1) = u := by rw [sx_ln_eq, show i - 1 = j by omega, List.getD_eq_getElem?_getD, hj]; rfl
      rw [this] at hp
      have h4 : u % 8 ≠ 4 := hp.resolve_left (by omega)
      rw [hvy.c1 h4] at hc
      cases hc
    simp only [Bool.and_eq_true, Bool.not_eq_true', beq_eq_false_iff_ne, ne_eq, Bool.and_eq_false_imp, beq_iff_eq]
    exact ⟨hji, fun hj1 hc => hcat ⟨hj1, hc⟩⟩
theorem sx_Lc.store2 (hl : sx_Lc b ad rs L ls) {i v : Nat} {x : Value} {ls' : Array Slot} (hv : sx_V b ad rs v x) (hi : i + 1 < L.length) (hp : i = 0 ∨ sx_ln L (i - 1) % 8 ≠ 4)
    (h' : lv_has ls' ls.size ((i, x) :: (sx_all ls).filter (fun q => !(q.1 == i) && (!(q.1 == i + 1) && !(q.1 + 1 == i && q.2.category == 2))))) : sx_Lc b ad rs ((L.set i v).set (i + 1) 7) ls' := by
  refine ⟨by rw [h'.1, List.length_set, List.length_set]; exact hl.1, h'.2.1, fun j u hj h7 => ?_⟩
  by_cases hj2 : j = i + 1
  · subst hj2
    rw [List.getElem?_set_self (by rw [List.length_set]; exact hi)] at hj
    cases hj
    exact absurd rfl h7
  · rw [List.getElem?_set_ne (Ne.symm hj2)] at hj
    by_cases hji : j = i
    · subst hji
      rw [List.getElem?_set_self (by omega)] at hj
      cases hj
      exact ⟨x, h'.2.2 (j, x) List.mem_cons_self, hv⟩
    · rw [List.getElem?_set_ne (Ne.symm hji)] at hj
      obtain ⟨y, hy, hvy⟩ := hl.2.2 j u hj h7
      refine ⟨y, h'.2.2 (j, y) (List.mem_cons_of_mem _ (List.mem_filter.mpr ⟨sx_all_mem.mpr hy, ?_⟩)), hvy⟩
      have hcat : ¬ (j + 1 = i ∧ y.category = 2) := by
        rintro ⟨hj1, hc⟩
        have : sx_ln L (i - 1) = u := by rw [sx_ln_eq, show i - 1 = j by omega, List.getD_eq_getElem?_getD, hj]; rfl
        rw [this] at hp
        have h4 : u % 8 ≠ 4 := hp.resolve_left (by omega)
        rw [hvy.c1 h4] at hc
        cases hc
      simp only [Bool.and_eq_true, Bool.not_eq_true', beq_eq_false_iff_ne, ne_eq, Bool.and_eq_false_imp, beq_iff_eq]
      exact ⟨hji, hj2, fun hj1 hc => hcat ⟨hj1, hc⟩⟩
theorem sx_st_ok {a : Nat} (h : sx_if (Nat.beq a 0) true (!Nat.beq (sx_tg (sx_ln L (Nat.pred a))) 4) = true) : a = 0 ∨ sx_ln L (a - 1) % 8 ≠ 4 := by
  cases h0 : Nat.beq a 0 with
  | true => exact Or.inl (sx_beq h0)
  | false =>
    rw [h0, sx_if_f] at h
    right
    intro q
    rw [sx_beq_t (show sx_tg (sx_ln L (Nat.pred a)) = 4 from q)] at h
    cases h
end SXLoc
section SXOps
variable {N : Nat} {ih : sx_ih} {w d mi pc n cs ss : Nat} {lst : List sx_I} {L S : List Nat} {h : sx_H} {sy : sx_Y} {outs : List sx_O}
variable {p : Program} {l : Launch} {e : Env} {R : Room} {s : State} {m : MethodId} {args : Array Value} {below : List Frame} {meth : Method} {c : Code} {D : va_G} {K : ClassId → FieldType → Prop} {b : Nat → Nat} {xs : Nat → Int32} {A : Nat → Prop} {q : sx_M}
variable {ad : List Nat} {rs : List Int32} {ls : Array Slot} {st : List Value} {H : Heap} {locs : List Loc} {cells slots : Nat} {Q : State → Prop}
theorem sx_go {fl : Bool} {ad' : List Nat} {rs' : List Int32} {outs' : List sx_O} (IH : sx_Ok N ih) (hr : ih d mi (sx_mt mi).1 lst fl pc L S h n sy cs ss = some outs') (hC : sx_Cx p e R s m meth c D K b N xs A mi d q)
    (hA : sx_At R s c D K b N xs A ad' rs' cells slots locs L S h n sy cs ss ls st H) (hL : sx_Ls p l e R s m args below meth c D K b N xs A Q ad rs lst) (ha : ad <+: ad') (hrs : rs <+: rs') (hsub : ∀ o ∈ outs', o ∈ outs)
    (hQ : ∀ o ∈ outs, ∀ t, sx_En R s below D K b A ad rs o t → Q t) : W p l e R s m args below meth c H locs cells slots Q (F0 m pc ls st) :=
  IH d mi lst fl pc L S h n sy cs ss outs' hr p l e R s m args below meth c D K b xs A q ad' rs' ls st H locs cells slots Q hC hA (hL.mono ha hrs) (fun o ho t ht => hQ o (hsub o ho) t (ht.mono ha hrs))
theorem sx_sConst (IH : sx_Ok N ih) (hC : sx_Cx p e R s m meth c D K b N xs A mi d q) (hA : sx_At R s c D K b N xs A ad rs cells slots locs L S h n sy cs ss ls st H) (hL : sx_Ls p l e R s m args below meth c D K b N xs A Q ad rs lst) (hQ : ∀ o ∈ outs, ∀ t, sx_En R s below D K b A ad rs o t → Q t)
    (hk : sx_k1 q pc w = true) (hr : sx_oConst ih w d mi (sx_mt mi).1 lst pc L S h n sy cs ss = some outs) : W p l e R s m args below meth c H locs cells slots Q (F0 m pc ls st) := by
  obtain ⟨-, hx, -, hb, -, -, -, -, hown, -, hT, -⟩ := id hC
  obtain ⟨hLc, hSt, hrest⟩ := id hA
  unfold sx_oConst at hr
  simp only [sx_fo_eq] at hr
  have go : ∀ x : Value, sx_V b ad rs (sx_wc w) x → W p l e R s m args below meth c H locs cells slots Q (F0 m (pc + sx_wa w) ls (x :: st)) := fun x hv => sx_go IH hr hC ⟨hLc, ⟨hv, hSt⟩, hrest⟩ hL List.prefix_rfl List.prefix_rfl (fun _ h => h) hQ
  have vI : sx_wc w % 8 = 0 → sx_V b ad rs (sx_wc w) (.int (Int32.ofNat (sx_wc w / 8))) := fun h => Or.inl ⟨h, rfl⟩
  have vL : sx_wc w % 8 = 4 → sx_V b ad rs (sx_wc w) (.long (Int64.ofNat (sx_wc w / 8))) := fun h => Or.inr (Or.inr (Or.inr (Or.inr (Or.inl ⟨h, rfl⟩))))
  unfold sx_k1 at hk
  dsimp only at hk
  split at hk
  · simp only [Bool.and_eq_true, decide_eq_true_eq] at hk
    obtain ⟨h1, h2, h3⟩ := hk
    rw [h1] at go
    exact lv_iconst hx hb (sx_dc_ok h3) (Int32.ofInt_toInt _) (go _ (vI h2))
  split at hk
  · simp only [Bool.and_eq_true, decide_eq_true_eq] at hk
    obtain ⟨h1, h2, h4, h3⟩ := hk
    rw [h1] at go
    exact lv_bipush hx hb (sx_dc_ok h3) h4 (go _ (vI h2))
  split at hk
  · simp only [Bool.and_eq_true, decide_eq_true_eq] at hk
    obtain ⟨h1, h2, h4, h3⟩ := hk
    rw [h1] at go
    exact lv_sipush hx hb (sx_dc_ok h3) h4 (go _ (vI h2))
  split at hk
  · simp only [Bool.and_eq_true, Bool.or_eq_true, decide_eq_true_eq] at hk
    obtain ⟨h1, h2⟩ := hk
    rw [h1] at go
    rcases h2 with ⟨h2, h3⟩ | ⟨h2, h3⟩
    · have v := vL (by rw [h2])
      rw [h2] at v go
      exact lv_lconst hx hb (sx_dc_ok h3) rfl (go _ v)
    · have v := vL (by rw [h2])
      rw [h2] at v go
      exact lv_lconst hx hb (sx_dc_ok h3) rfl (go _ v)
  split at hk
  · simp only [Bool.and_eq_true, decide_eq_true_eq] at hk
    obtain ⟨h1, h2, h3⟩ := hk
    obtain ⟨t, ht, h3⟩ := sx_oa_ok h3
    simp only [Bool.and_eq_true, decide_eq_true_eq] at h3
    obtain ⟨h4, h5, h6⟩ := h3
    rw [h1] at go
    have g2 := go _ (vI h2)
    rw [← h5] at g2
    exact lv_ldc hx hb (by rw [h4]; exact hown) (hT.1 _ _ (sx_cn_in ht)) (sx_dc_ok h6) g2
  split at hk
  · simp only [Bool.and_eq_true, decide_eq_true_eq] at hk
    obtain ⟨h1, h2, h3⟩ := hk
    obtain ⟨t, ht, h3⟩ := sx_oa_ok h3
    simp only [Bool.and_eq_true, decide_eq_true_eq] at h3
    obtain ⟨h4, h5, h6⟩ := h3
    rw [h1] at go
    have g2 := go _ (vI h2)
    rw [← h5] at g2
    exact lv_ldcw hx hb (by rw [h4]; exact hown) (hT.1 _ _ (sx_cn_in ht)) (sx_dc_ok h6) g2
  · simp only [Bool.and_eq_true, decide_eq_true_eq] at hk
    obtain ⟨h1, h2, h3⟩ := hk
    obtain ⟨t, ht, h3⟩ := sx_oa_ok h3
    simp only [Bool.and_eq_true, decide_eq_true_eq] at h3
    obtain ⟨h4, h5, h6⟩ := h3
    rw [h1] at go
    have g2 := go _ (vL h2)
    rw [← h5] at g2
    exact lv_ldc2 hx hb (by rw [h4]; exact hown) (hT.1 _ _ (sx_cg_in ht)) (sx_dc_ok h6) g2
end SXOps
