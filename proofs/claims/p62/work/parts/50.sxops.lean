/-! joined: 50.sxops 51.sxops2 52.sxops3 53.sxheap 54.sxput 55.sxarr 56.sxnew 57.sxret 58.sxbase2 -/
section
/-! sx: steps within the frame -/
def sx_all (ls : Array Slot) : List (Nat × Value) := (List.range ls.size).filterMap (fun (i : Nat) => match (ls[i]? : Option Slot) with
  | some (Slot.val v) => some (i, v)
  | _ => none)
theorem sx_all_mem {ls : Array Slot} {i : Nat} {v : Value} : (i, v) ∈ sx_all ls ↔ ls[i]? = some (.val v) := by
  unfold sx_all
  rw [List.mem_filterMap]
  constructor
  · rintro ⟨j, -, hj⟩
    split at hj
    · rename_i u hu
      cases hj
      exact hu
    · cases hj
  · intro h
    exact ⟨i, List.mem_range.mpr (Array.getElem?_eq_some_iff.mp h).1, by rw [h]⟩
theorem sx_all_has {ls : Array Slot} (hw : lv_wf ls) : lv_has ls ls.size (sx_all ls) := ⟨rfl, hw, fun q hq => sx_all_mem.mp hq⟩
section SXLoc
variable {b : Nat → Nat} {ad : List Nat} {rs : List Int32} {L : List Nat} {ls : Array Slot}
theorem sx_ln_at {i v : Nat} (h : sx_ln L i = v) (h7 : v ≠ 7) : L[i]? = some v := by
  rw [sx_ln_eq] at h
  cases hl : L[i]? with
  | none => rw [List.getD_eq_getElem?_getD, hl] at h; exact absurd h.symm h7
  | some u => rw [List.getD_eq_getElem?_getD, hl] at h; exact congrArg some h
theorem sx_Lc.at (hl : sx_Lc b ad rs L ls) {i v : Nat} (h : sx_ln L i = v) (h7 : v ≠ 7) : ∃ x : Value, ls[i]? = some (.val x) ∧ sx_V b ad rs v x := hl.2.2 i v (sx_ln_at h h7) h7
theorem sx_Lc.store1 (hl : sx_Lc b ad rs L ls) {i v : Nat} {x : Value} {ls' : Array Slot} (hv : sx_V b ad rs v x) (hi : i < L.length) (hp : i = 0 ∨ sx_ln L (i - 1) % 8 ≠ 4)
    (h' : lv_has ls' ls.size ((i, x) :: (sx_all ls).filter (fun q => !(q.1 == i) && !(q.1 + 1 == i && q.2.category == 2)))) : sx_Lc b ad rs (L.set i v) ls' := by
  refine ⟨by rw [h'.1, List.length_set]; exact hl.1, h'.2.1, fun j u hj h7 => ?_⟩
  by_cases hji : j = i
  · subst hji
    rw [List.getElem?_set_self hi] at hj
    cases hj
    exact ⟨x, h'.2.2 (j, x) List.mem_cons_self, hv⟩
  · rw [List.getElem?_set_ne (Ne.symm hji)] at hj
    obtain ⟨y, hy, hvy⟩ := hl.2.2 j u hj h7
    refine ⟨y, h'.2.2 (j, y) (List.mem_cons_of_mem _ (List.mem_filter.mpr ⟨sx_all_mem.mpr hy, ?_⟩)), hvy⟩
    have hcat : ¬ (j + 1 = i ∧ y.category = 2) := by
      rintro ⟨hj1, hc⟩
      have : sx_ln L (i - 1) = u := by rw [sx_ln_eq, show i - 1 = j by omega, List.getD_eq_getElem?_getD, hj]; rfl
      rw [this] at hp
      have h4 : u % 8 ≠ 4 := hp.resolve_left (by omega)
      rw [hvy.c1 h4] at hc
      cases hc
    simp only [Bool.and_eq_true, Bool.not_eq_true', beq_eq_false_iff_ne, ne_eq, Bool.and_eq_false_imp, beq_iff_eq]
    exact ⟨hji, fun hj1 hc => hcat ⟨hj1, hc⟩⟩
theorem sx_Lc.store2 (hl : sx_Lc b ad rs L ls) {i v : Nat} {x : Value} {ls' : Array Slot} (hv : sx_V b ad rs v x) (hi : i + 1 < L.length) (hp : i = 0 ∨ sx_ln L (i - 1) % 8 ≠ 4)
    (h' : lv_has ls' ls.size ((i, x) :: (sx_all ls).filter (fun q => !(q.1 == i) && (!(q.1 == i + 1) && !(q.1 + 1 == i && q.2.category == 2))))) : sx_Lc b ad rs ((L.set i v).set (i + 1) 7) ls' := by
  refine ⟨by rw [h'.1, List.length_set, List.length_set]; exact hl.1, h'.2.1, fun j u hj h7 => ?_⟩
  by_cases hj2 : j = i + 1
  · subst hj2
    rw [List.getElem?_set_self (by rw [List.length_set]; exact hi)] at hj
    cases hj
    exact absurd rfl h7
  · rw [List.getElem?_set_ne (Ne.symm hj2)] at hj
    by_cases hji : j = i
    · subst hji
      rw [List.getElem?_set_self (by omega)] at hj
      cases hj
      exact ⟨x, h'.2.2 (j, x) List.mem_cons_self, hv⟩
    · rw [List.getElem?_set_ne (Ne.symm hji)] at hj
      obtain ⟨y, hy, hvy⟩ := hl.2.2 j u hj h7
      refine ⟨y, h'.2.2 (j, y) (List.mem_cons_of_mem _ (List.mem_filter.mpr ⟨sx_all_mem.mpr hy, ?_⟩)), hvy⟩
      have hcat : ¬ (j + 1 = i ∧ y.category = 2) := by
        rintro ⟨hj1, hc⟩
        have : sx_ln L (i - 1) = u := by rw [sx_ln_eq, show i - 1 = j by omega, List.getD_eq_getElem?_getD, hj]; rfl
        rw [this] at hp
        have h4 : u % 8 ≠ 4 := hp.resolve_left (by omega)
        rw [hvy.c1 h4] at hc
        cases hc
      simp only [Bool.and_eq_true, Bool.not_eq_true', beq_eq_false_iff_ne, ne_eq, Bool.and_eq_false_imp, beq_iff_eq]
      exact ⟨hji, hj2, fun hj1 hc => hcat ⟨hj1, hc⟩⟩
theorem sx_st_ok {a : Nat} (h : sx_if (Nat.beq a 0) true (!Nat.beq (sx_tg (sx_ln L (Nat.pred a))) 4) = true) : a = 0 ∨ sx_ln L (a - 1) % 8 ≠ 4 := by
  cases h0 : Nat.beq a 0 with
  | true => exact Or.inl (sx_beq h0)
  | false =>
    rw [h0, sx_if_f] at h
    right
    intro q
    rw [sx_beq_t (show sx_tg (sx_ln L (Nat.pred a)) = 4 from q)] at h
    cases h
end SXLoc
section SXOps
variable {N : Nat} {ih : sx_ih} {w d mi pc n cs ss : Nat} {lst : List sx_I} {L S : List Nat} {h : sx_H} {sy : sx_Y} {outs : List sx_O}
variable {p : Program} {l : Launch} {e : Env} {R : Room} {s : State} {m : MethodId} {args : Array Value} {below : List Frame} {meth : Method} {c : Code} {D : va_G} {K : ClassId → FieldType → Prop} {b : Nat → Nat} {xs : Nat → Int32} {A : Nat → Prop} {q : sx_M}
variable {ad : List Nat} {rs : List Int32} {ls : Array Slot} {st : List Value} {H : Heap} {locs : List Loc} {cells slots : Nat} {Q : State → Prop}
theorem sx_go {fl : Bool} {ad' : List Nat} {rs' : List Int32} {outs' : List sx_O} (IH : sx_Ok N ih) (hr : ih d mi (sx_mt mi).1 lst fl pc L S h n sy cs ss = some outs') (hC : sx_Cx p e R s m meth c D K b N xs A mi d q)
    (hA : sx_At R s c D K b N xs A ad' rs' cells slots locs L S h n sy cs ss ls st H) (hL : sx_Ls p l e R s m args below meth c D K b N xs A Q ad rs lst) (ha : ad <+: ad') (hrs : rs <+: rs') (hsub : ∀ o ∈ outs', o ∈ outs)
    (hQ : ∀ o ∈ outs, ∀ t, sx_En R s below D K b A ad rs o t → Q t) : W p l e R s m args below meth c H locs cells slots Q (F0 m pc ls st) :=
  IH d mi lst fl pc L S h n sy cs ss outs' hr p l e R s m args below meth c D K b xs A q ad' rs' ls st H locs cells slots Q hC hA (hL.mono ha hrs) (fun o ho t ht => hQ o (hsub o ho) t (ht.mono ha hrs))
theorem sx_sConst (IH : sx_Ok N ih) (hC : sx_Cx p e R s m meth c D K b N xs A mi d q) (hA : sx_At R s c D K b N xs A ad rs cells slots locs L S h n sy cs ss ls st H) (hL : sx_Ls p l e R s m args below meth c D K b N xs A Q ad rs lst) (hQ : ∀ o ∈ outs, ∀ t, sx_En R s below D K b A ad rs o t → Q t)
    (hk : sx_k1 q pc w = true) (hr : sx_oConst ih w d mi (sx_mt mi).1 lst pc L S h n sy cs ss = some outs) : W p l e R s m args below meth c H locs cells slots Q (F0 m pc ls st) := by
  obtain ⟨-, hx, -, hb, -, -, -, -, hown, -, hT, -⟩ := id hC
  obtain ⟨hLc, hSt, hrest⟩ := id hA
  unfold sx_oConst at hr
  simp only [sx_fo_eq] at hr
  have go : ∀ x : Value, sx_V b ad rs (sx_wc w) x → W p l e R s m args below meth c H locs cells slots Q (F0 m (pc + sx_wa w) ls (x :: st)) := fun x hv => sx_go IH hr hC ⟨hLc, ⟨hv, hSt⟩, hrest⟩ hL List.prefix_rfl List.prefix_rfl (fun _ h => h) hQ
  have vI : sx_wc w % 8 = 0 → sx_V b ad rs (sx_wc w) (.int (Int32.ofNat (sx_wc w / 8))) := fun h => Or.inl ⟨h, rfl⟩
  have vL : sx_wc w % 8 = 4 → sx_V b ad rs (sx_wc w) (.long (Int64.ofNat (sx_wc w / 8))) := fun h => Or.inr (Or.inr (Or.inr (Or.inr (Or.inl ⟨h, rfl⟩))))
  unfold sx_k1 at hk
  dsimp only at hk
  split at hk
  · simp only [Bool.and_eq_true, decide_eq_true_eq] at hk
    obtain ⟨h1, h2, h3⟩ := hk
    rw [h1] at go
    exact lv_iconst hx hb (sx_dc_ok h3) (Int32.ofInt_toInt _) (go _ (vI h2))
  split at hk
  · simp only [Bool.and_eq_true, decide_eq_true_eq] at hk
    obtain ⟨h1, h2, h4, h3⟩ := hk
    rw [h1] at go
    exact lv_bipush hx hb (sx_dc_ok h3) h4 (go _ (vI h2))
  split at hk
  · simp only [Bool.and_eq_true, decide_eq_true_eq] at hk
    obtain ⟨h1, h2, h4, h3⟩ := hk
    rw [h1] at go
    exact lv_sipush hx hb (sx_dc_ok h3) h4 (go _ (vI h2))
  split at hk
  · simp only [Bool.and_eq_true, Bool.or_eq_true, decide_eq_true_eq] at hk
    obtain ⟨h1, h2⟩ := hk
    rw [h1] at go
    rcases h2 with ⟨h2, h3⟩ | ⟨h2, h3⟩
    · have v := vL (by rw [h2])
      rw [h2] at v go
      exact lv_lconst hx hb (sx_dc_ok h3) rfl (go _ v)
    · have v := vL (by rw [h2])
      rw [h2] at v go
      exact lv_lconst hx hb (sx_dc_ok h3) rfl (go _ v)
  split at hk
  · simp only [Bool.and_eq_true, decide_eq_true_eq] at hk
    obtain ⟨h1, h2, h3⟩ := hk
    obtain ⟨t, ht, h3⟩ := sx_oa_ok h3
    simp only [Bool.and_eq_true, decide_eq_true_eq] at h3
    obtain ⟨h4, h5, h6⟩ := h3
    rw [h1] at go
    have g2 := go _ (vI h2)
    rw [← h5] at g2
    exact lv_ldc hx hb (by rw [h4]; exact hown) (hT.1 _ _ (sx_cn_in ht)) (sx_dc_ok h6) g2
  split at hk
  · simp only [Bool.and_eq_true, decide_eq_true_eq] at hk
    obtain ⟨h1, h2, h3⟩ := hk
    obtain ⟨t, ht, h3⟩ := sx_oa_ok h3
    simp only [Bool.and_eq_true, decide_eq_true_eq] at h3
    obtain ⟨h4, h5, h6⟩ := h3
    rw [h1] at go
    have g2 := go _ (vI h2)
    rw [← h5] at g2
    exact lv_ldcw hx hb (by rw [h4]; exact hown) (hT.1 _ _ (sx_cn_in ht)) (sx_dc_ok h6) g2
  · simp only [Bool.and_eq_true, decide_eq_true_eq] at hk
    obtain ⟨h1, h2, h3⟩ := hk
    obtain ⟨t, ht, h3⟩ := sx_oa_ok h3
    simp only [Bool.and_eq_true, decide_eq_true_eq] at h3
    obtain ⟨h4, h5, h6⟩ := h3
    rw [h1] at go
    have g2 := go _ (vL h2)
    rw [← h5] at g2
    exact lv_ldc2 hx hb (by rw [h4]; exact hown) (hT.1 _ _ (sx_cg_in ht)) (sx_dc_ok h6) g2
end SXOps
end
section
/-! sx: loads, stores, sums, branches -/
section SXOps2
variable {N : Nat} {ih : sx_ih} {w d mi pc n cs ss : Nat} {lst : List sx_I} {L S : List Nat} {h : sx_H} {sy : sx_Y} {outs : List sx_O}
variable {p : Program} {l : Launch} {e : Env} {R : Room} {s : State} {m : MethodId} {args : Array Value} {below : List Frame} {meth : Method} {c : Code} {D : va_G} {K : ClassId → FieldType → Prop} {b : Nat → Nat} {xs : Nat → Int32} {A : Nat → Prop} {q : sx_M}
variable {ad : List Nat} {rs : List Int32} {ls : Array Slot} {st : List Value} {H : Heap} {locs : List Loc} {cells slots : Nat} {Q : State → Prop}
theorem sx_sLoad (IH : sx_Ok N ih) (hC : sx_Cx p e R s m meth c D K b N xs A mi d q) (hA : sx_At R s c D K b N xs A ad rs cells slots locs L S h n sy cs ss ls st H) (hL : sx_Ls p l e R s m args below meth c D K b N xs A Q ad rs lst) (hQ : ∀ o ∈ outs, ∀ t, sx_En R s below D K b A ad rs o t → Q t)
    (hk : sx_k2 q pc w = true) (hr : sx_oLoad ih w d mi (sx_mt mi).1 lst pc L S h n sy cs ss = some outs) : W p l e R s m args below meth c H locs cells slots Q (F0 m pc ls st) := by
  obtain ⟨-, hx, -, hb, hml, -, -, -, hown, -, hT, -⟩ := id hC
  obtain ⟨hLc, hSt, hrest⟩ := id hA
  unfold sx_oLoad at hr
  simp only [sx_fo_eq] at hr
  obtain ⟨hty, hr⟩ := sx_if_ok hr
  have go : ∀ (x : Value) (pc' : Nat), pc' = Nat.add pc (Nat.mod (sx_wb w) 16) → sx_V b ad rs (sx_ln L (sx_wa w)) x → W p l e R s m args below meth c H locs cells slots Q (F0 m pc' ls (x :: st)) := by
    intro x pc' hp hv
    subst hp
    exact sx_go IH hr hC ⟨hLc, ⟨hv, hSt⟩, hrest⟩ hL List.prefix_rfl List.prefix_rfl (fun _ h => h) hQ
  have f4 : sx_wa w < 4 → ((sx_f4 (sx_wa w) : Fin 4) : Nat) = sx_wa w := fun h => Nat.mod_eq_of_lt h
  unfold sx_k2 at hk
  split at hk
  · rename_i hw
    simp only [Bool.and_eq_true, decide_eq_true_eq] at hk
    rw [hw] at hty
    have ht : sx_ln L (sx_wa w) % 8 ≤ 1 := sx_ble hty
    obtain ⟨x, h1, h2⟩ := hLc.at rfl (fun h => by rw [h] at ht; omega)
    obtain ⟨z, rfl⟩ := h2.i ht
    exact lv_iload_n hx hb (sx_dc_ok hk.2) (f4 hk.1) h1 (go _ _ (by rw [hw]) h2)
  split at hk
  · rename_i hw
    rw [hw] at hty
    have ht : sx_ln L (sx_wa w) % 8 ≤ 1 := sx_ble hty
    obtain ⟨x, h1, h2⟩ := hLc.at rfl (fun h => by rw [h] at ht; omega)
    obtain ⟨z, rfl⟩ := h2.i ht
    exact lv_iload hx hb (sx_dc_ok hk) h1 (go _ _ (by rw [hw]) h2)
  have tyA : ∀ v, sx_ty 1 v = true → v % 8 = 2 ∨ v % 8 = 5 := by
    intro v hv
    have hv : sx_if (Nat.beq (sx_tg v) 2) true (Nat.beq (sx_tg v) 5) = true := hv
    cases h2 : Nat.beq (sx_tg v) 2 with
    | true => exact Or.inl (sx_beq h2)
    | false => rw [h2, sx_if_f] at hv; exact Or.inr (sx_beq hv)
  have refA : ∀ v, (v % 8 = 2 ∨ v % 8 = 5) → ∀ x : Value, sx_V b ad rs v x → ∃ a, x = .ref a := by
    intro v hv x hx
    rcases hv with hv | hv
    · obtain ⟨a, -, ha⟩ := hx.t2 hv; exact ⟨a, ha⟩
    · exact ⟨_, hx.t5 hv⟩
  split at hk
  · rename_i hw
    simp only [Bool.and_eq_true, decide_eq_true_eq] at hk
    rw [hw] at hty
    have ht := tyA _ hty
    obtain ⟨x, h1, h2⟩ := hLc.at rfl (fun h => by rw [h] at ht; omega)
    obtain ⟨z, rfl⟩ := refA _ ht x h2
    exact lv_aload_n hx hb (sx_dc_ok hk.2) (f4 hk.1) h1 (go _ _ (by rw [hw]) h2)
  split at hk
  · rename_i hw
    rw [hw] at hty
    have ht := tyA _ hty
    obtain ⟨x, h1, h2⟩ := hLc.at rfl (fun h => by rw [h] at ht; omega)
    obtain ⟨z, rfl⟩ := refA _ ht x h2
    exact lv_aload hx hb (sx_dc_ok hk) h1 (go _ _ (by rw [hw]) h2)
  split at hk
  · rename_i hw
    simp only [Bool.and_eq_true, decide_eq_true_eq] at hk
    rw [hw] at hty
    have ht : sx_ln L (sx_wa w) % 8 = 4 := sx_beq hty
    obtain ⟨x, h1, h2⟩ := hLc.at rfl (fun h => by rw [h] at ht; omega)
    have e := h2.t4 ht
    rw [e] at h1
    exact lv_lload_n hx hb (sx_dc_ok hk.2) (f4 hk.1) h1 (go _ _ (by rw [hw]) (by rw [← e]; exact h2))
  · simp only [Bool.and_eq_true, decide_eq_true_eq] at hk
    obtain ⟨hw, hk⟩ := hk
    rw [hw] at hty
    have ht : sx_ln L (sx_wa w) % 8 = 4 := sx_beq hty
    obtain ⟨x, h1, h2⟩ := hLc.at rfl (fun h => by rw [h] at ht; omega)
    have e := h2.t4 ht
    rw [e] at h1
    exact lv_lload hx hb (sx_dc_ok hk) h1 (go _ _ (by rw [hw]) (by rw [← e]; exact h2))
theorem sx_sStore (IH : sx_Ok N ih) (hC : sx_Cx p e R s m meth c D K b N xs A mi d q) (hA : sx_At R s c D K b N xs A ad rs cells slots locs L S h n sy cs ss ls st H) (hL : sx_Ls p l e R s m args below meth c D K b N xs A Q ad rs lst) (hQ : ∀ o ∈ outs, ∀ t, sx_En R s below D K b A ad rs o t → Q t)
    (hk : sx_k3 q pc w = true) (hr : sx_oStore ih w d mi (sx_mt mi).1 lst pc L S h n sy cs ss = some outs) : W p l e R s m args below meth c H locs cells slots Q (F0 m pc ls st) := by
  obtain ⟨-, hx, -, hb, hml, -, -, -, hown, -, hT, -⟩ := id hC
  obtain ⟨hLc, hSt, hrest⟩ := id hA
  obtain ⟨hY, hG, hS, hxs, hr1, hr2, hln⟩ := id hrest
  unfold sx_oStore at hr
  cases S with
  | nil => cases hr
  | cons v r =>
  have hr : sx_if (sx_ty (Nat.div (sx_wb w) 16) v) _ none = some outs := hr
  obtain ⟨hty, hr⟩ := sx_if_ok hr
  obtain ⟨hp, hr⟩ := sx_if_ok hr
  have hp := sx_st_ok hp
  simp only [sx_fo_eq] at hr
  obtain ⟨x, st', rfl, hv, hSt'⟩ := hSt.cons
  have f4 : sx_wa w < 4 → ((sx_f4 (sx_wa w) : Fin 4) : Nat) = sx_wa w := fun h => Nat.mod_eq_of_lt h
  have tyA : ∀ v, sx_ty 1 v = true → v % 8 = 2 ∨ v % 8 = 5 := by
    intro v hv
    have hv : sx_if (Nat.beq (sx_tg v) 2) true (Nat.beq (sx_tg v) 5) = true := hv
    cases h2 : Nat.beq (sx_tg v) 2 with
    | true => exact Or.inl (sx_beq h2)
    | false => rw [h2, sx_if_f] at hv; exact Or.inr (sx_beq hv)
  have refA : ∀ v, (v % 8 = 2 ∨ v % 8 = 5) → ∀ x : Value, sx_V b ad rs v x → ∃ a, x = .ref a := by
    intro v hv x hx
    rcases hv with hv | hv
    · obtain ⟨a, -, ha⟩ := hx.t2 hv; exact ⟨a, ha⟩
    · exact ⟨_, hx.t5 hv⟩
  unfold sx_k3 at hk
  split at hk
  · rename_i hw
    simp only [Bool.and_eq_true, decide_eq_true_eq] at hk
    rw [hw] at hty
    have ht : v % 8 ≤ 1 := sx_ble hty
    obtain ⟨z, rfl⟩ := hv.i ht
    rw [hw] at hr
    obtain ⟨hlen, hr⟩ := sx_if_ok (show sx_if (Nat.blt (sx_wa w) (List.length L)) _ none = some outs from hr)
    have hlt : sx_wa w < L.length := sx_blt hlen
    simp only [sx_stK_eq] at hr
    exact lv_istore_n hx hb (sx_dc_ok hk.2) (f4 hk.1) (sx_all_has hLc.2.1) (by rw [hLc.1]; exact hlt) rfl (fun ls' hl' => sx_go IH hr hC ⟨hLc.store1 hv hlt hp hl', hSt', hY, hG, hS, hxs, hr1, hr2, by rw [List.length_set]; exact hln⟩ hL List.prefix_rfl List.prefix_rfl (fun _ h => h) hQ)
  split at hk
  · rename_i hw
    rw [hw] at hty
    have ht : v % 8 ≤ 1 := sx_ble hty
    obtain ⟨z, rfl⟩ := hv.i ht
    rw [hw] at hr
    obtain ⟨hlen, hr⟩ := sx_if_ok (show sx_if (Nat.blt (sx_wa w) (List.length L)) _ none = some outs from hr)
    have hlt : sx_wa w < L.length := sx_blt hlen
    simp only [sx_stK_eq] at hr
    exact lv_istore hx hb (sx_dc_ok hk) (sx_all_has hLc.2.1) (by rw [hLc.1]; exact hlt) rfl (fun ls' hl' => sx_go IH hr hC ⟨hLc.store1 hv hlt hp hl', hSt', hY, hG, hS, hxs, hr1, hr2, by rw [List.length_set]; exact hln⟩ hL List.prefix_rfl List.prefix_rfl (fun _ h => h) hQ)
  split at hk
  · rename_i hw
    simp only [Bool.and_eq_true, decide_eq_true_eq] at hk
    rw [hw] at hty
    have ht := tyA _ hty
    obtain ⟨z, rfl⟩ := refA _ ht x hv
    rw [hw] at hr
    obtain ⟨hlen, hr⟩ := sx_if_ok (show sx_if (Nat.blt (sx_wa w) (List.length L)) _ none = some outs from hr)
    have hlt : sx_wa w < L.length := sx_blt hlen
    simp only [sx_stK_eq] at hr
    exact lv_astore_n hx hb (sx_dc_ok hk.2) (f4 hk.1) (sx_all_has hLc.2.1) (by rw [hLc.1]; exact hlt) rfl (fun ls' hl' => sx_go IH hr hC ⟨hLc.store1 hv hlt hp hl', hSt', hY, hG, hS, hxs, hr1, hr2, by rw [List.length_set]; exact hln⟩ hL List.prefix_rfl List.prefix_rfl (fun _ h => h) hQ)
  split at hk
  · rename_i hw
    rw [hw] at hty
    have ht := tyA _ hty
    obtain ⟨z, rfl⟩ := refA _ ht x hv
    rw [hw] at hr
    obtain ⟨hlen, hr⟩ := sx_if_ok (show sx_if (Nat.blt (sx_wa w) (List.length L)) _ none = some outs from hr)
    have hlt : sx_wa w < L.length := sx_blt hlen
    simp only [sx_stK_eq] at hr
    exact lv_astore hx hb (sx_dc_ok hk) (sx_all_has hLc.2.1) (by rw [hLc.1]; exact hlt) rfl (fun ls' hl' => sx_go IH hr hC ⟨hLc.store1 hv hlt hp hl', hSt', hY, hG, hS, hxs, hr1, hr2, by rw [List.length_set]; exact hln⟩ hL List.prefix_rfl List.prefix_rfl (fun _ h => h) hQ)
  split at hk
  · rename_i hw
    simp only [Bool.and_eq_true, decide_eq_true_eq] at hk
    rw [hw] at hty
    have ht : v % 8 = 4 := sx_beq hty
    have e := hv.t4 ht
    subst e
    rw [hw] at hr
    obtain ⟨hlen, hr⟩ := sx_if_ok (show sx_if (Nat.blt (Nat.succ (sx_wa w)) (List.length L)) _ none = some outs from hr)
    have hlt : sx_wa w + 1 < L.length := sx_blt hlen
    simp only [sx_stK_eq] at hr
    exact lv_lstore_n hx hb (sx_dc_ok hk.2) (f4 hk.1) (sx_all_has hLc.2.1) (by rw [hLc.1]; exact hlt) rfl (fun ls' hl' => sx_go IH hr hC ⟨hLc.store2 hv hlt hp hl', hSt', hY, hG, hS, hxs, hr1, hr2, by rw [List.length_set, List.length_set]; exact hln⟩ hL List.prefix_rfl List.prefix_rfl (fun _ h => h) hQ)
  · simp only [Bool.and_eq_true, decide_eq_true_eq] at hk
    obtain ⟨hw, hk⟩ := hk
    rw [hw] at hty
    have ht : v % 8 = 4 := sx_beq hty
    have e := hv.t4 ht
    subst e
    rw [hw] at hr
    obtain ⟨hlen, hr⟩ := sx_if_ok (show sx_if (Nat.blt (Nat.succ (sx_wa w)) (List.length L)) _ none = some outs from hr)
    have hlt : sx_wa w + 1 < L.length := sx_blt hlen
    simp only [sx_stK_eq] at hr
    exact lv_lstore hx hb (sx_dc_ok hk) (sx_all_has hLc.2.1) (by rw [hLc.1]; exact hlt) rfl (fun ls' hl' => sx_go IH hr hC ⟨hLc.store2 hv hlt hp hl', hSt', hY, hG, hS, hxs, hr1, hr2, by rw [List.length_set, List.length_set]; exact hln⟩ hL List.prefix_rfl List.prefix_rfl (fun _ h => h) hQ)
theorem sx_sBin (IH : sx_Ok N ih) (hC : sx_Cx p e R s m meth c D K b N xs A mi d q) (hA : sx_At R s c D K b N xs A ad rs cells slots locs L S h n sy cs ss ls st H) (hL : sx_Ls p l e R s m args below meth c D K b N xs A Q ad rs lst) (hQ : ∀ o ∈ outs, ∀ t, sx_En R s below D K b A ad rs o t → Q t)
    (hk : sx_k4 q pc w = true) (hr : sx_oBin ih w d mi (sx_mt mi).1 lst pc L S h n sy cs ss = some outs) : W p l e R s m args below meth c H locs cells slots Q (F0 m pc ls st) := by
  obtain ⟨-, hx, -, hb, hml, -, -, -, hown, -, hT, -⟩ := id hC
  obtain ⟨hLc, hSt, hrest⟩ := id hA
  unfold sx_oBin at hr
  cases S with
  | nil => cases hr
  | cons y r =>
  cases r with
  | nil => cases hr
  | cons x r =>
  obtain ⟨hii, hr⟩ := sx_if_ok (show sx_if (sx_ii x y) _ none = some outs from hr)
  obtain ⟨i1, i2⟩ := sx_and_ok hii
  obtain ⟨vy, st1, rfl, hvy, hSt1⟩ := hSt.cons
  obtain ⟨vx, st2, rfl, hvx, hSt2⟩ := hSt1.cons
  unfold sx_k4 at hk
  simp only [Bool.and_eq_true, decide_eq_true_eq] at hk
  obtain ⟨ho, hk⟩ := hk
  obtain ⟨hY, hG, hS, hxs, hrm⟩ := id hrest
  obtain ⟨zx, rfl⟩ := hvx.i (sx_ble i1)
  obtain ⟨zy, rfl⟩ := hvy.i (sx_ble i2)
  obtain ⟨v, sy', rs', outs', a1, a2, a3, a4, a5, a6⟩ := sx_bin2_ok hr hY hvx hvy
  simp only [sx_fo_eq] at a1
  have go : W p l e R s m args below meth c H locs cells slots Q (F0 m (pc + 1) ls (.int (sx_bf (sx_wa w) zx zy) :: st2)) := sx_go IH a1 hC ⟨hLc.mono List.prefix_rfl a3, ⟨a5, hSt2.mono List.prefix_rfl a3⟩, a4, hG.mono a3, hS, fun k hk => sx_pre a3 (hxs k hk), hrm⟩ hL List.prefix_rfl a3 a2 hQ
  have hd := sx_dc_ok hk
  rcases (show sx_wa w = 0 ∨ sx_wa w = 1 ∨ sx_wa w = 2 ∨ sx_wa w = 3 ∨ sx_wa w = 4 ∨ sx_wa w = 5 ∨ sx_wa w = 6 ∨ sx_wa w = 7 ∨ sx_wa w = 8 ∨ sx_wa w = 9 ∨ sx_wa w = 10 by omega) with ho | ho | ho | ho | ho | ho | ho | ho | ho | ho | ho
  all_goals rw [ho] at hd go a6
  · exact lv_iadd hx hb hd go
  · exact lv_isub hx hb hd go
  · exact lv_imul hx hb hd go
  · exact lv_iand hx hb hd go
  · exact lv_ior hx hb hd go
  · exact lv_ixor hx hb hd go
  · exact lv_ishl hx hb hd go
  · exact lv_ishr hx hb hd go
  · exact lv_iushr hx hb hd rfl go
  · exact lv_idiv hx hb hd (a6 (by decide)) go
  · exact lv_irem hx hb hd (a6 (by decide)) go
theorem sx_sIinc (IH : sx_Ok N ih) (hC : sx_Cx p e R s m meth c D K b N xs A mi d q) (hA : sx_At R s c D K b N xs A ad rs cells slots locs L S h n sy cs ss ls st H) (hL : sx_Ls p l e R s m args below meth c D K b N xs A Q ad rs lst) (hQ : ∀ o ∈ outs, ∀ t, sx_En R s below D K b A ad rs o t → Q t)
    (hk : sx_k5 q pc w = true) (hr : sx_oIinc ih w d mi (sx_mt mi).1 lst pc L S h n sy cs ss = some outs) : W p l e R s m args below meth c H locs cells slots Q (F0 m pc ls st) := by
  obtain ⟨-, hx, -, hb, hml, -, -, -, hown, -, hT, -⟩ := id hC
  obtain ⟨hLc, hSt, hrest⟩ := id hA
  unfold sx_oIinc at hr
  obtain ⟨hp, hr⟩ := sx_if_ok hr
  obtain ⟨hlen, hr⟩ := sx_if_ok hr
  have hp := sx_st_ok hp
  have hlt : sx_wa w < L.length := sx_blt hlen
  rw [sx_fo_eq] at hr
  obtain ⟨i1, hr⟩ := sx_if_ok hr
  have i1 : sx_ln L (sx_wa w) % 8 ≤ 1 := sx_ble i1
  obtain ⟨hY, hG, hS, hxs, hrm⟩ := id hrest
  have hc : sx_V b ad rs (Nat.mul 8 (sx_wc w)) (.int (Int32.ofNat (sx_wc w))) := Or.inl ⟨Nat.mul_mod_right 8 _, by rw [show Nat.mul 8 (sx_wc w) / 8 = sx_wc w from Nat.mul_div_cancel_left _ (by decide)]⟩
  have h7 : sx_ln L (sx_wa w) ≠ 7 := fun h7 => by
    rw [h7] at i1
    omega
  obtain ⟨x, h1, h2⟩ := hLc.at rfl h7
  obtain ⟨z, rfl⟩ := h2.i i1
  obtain ⟨v, sy', rs', outs', a1, a2, a3, a4, a5, a6⟩ := sx_bin_ok hr hY h2 hc
  simp only [sx_stK_eq, sx_fo_eq] at a1
  obtain ⟨k, hk2⟩ := List.getElem?_of_mem (sx_all_mem.mpr h1)
  refine lv_iinc hx hb (sx_dc_ok hk) (sx_all_has hLc.2.1) hk2 (v := sx_bf 0 z (Int32.ofNat (sx_wc w))) (by rw [Int32.ofInt_toInt]; rfl) (by rw [hLc.1]; exact hlt) rfl (fun ls' hl' => ?_)
  exact sx_go IH a1 hC ⟨(hLc.mono List.prefix_rfl a3).store1 a5 hlt hp hl', hSt.mono List.prefix_rfl a3, a4, hG.mono a3, hS, fun k hk => sx_pre a3 (hxs k hk), hrm.1, hrm.2.1, by rw [List.length_set]; exact hrm.2.2⟩ hL List.prefix_rfl a3 a2 hQ
end SXOps2
end
section
/-! sx: branches, the stack, longs -/
section SXOps3
variable {N : Nat} {ih : sx_ih} {w d mi pc n cs ss : Nat} {lst : List sx_I} {L S : List Nat} {h : sx_H} {sy : sx_Y} {outs : List sx_O}
variable {p : Program} {l : Launch} {e : Env} {R : Room} {s : State} {m : MethodId} {args : Array Value} {below : List Frame} {meth : Method} {c : Code} {D : va_G} {K : ClassId → FieldType → Prop} {b : Nat → Nat} {xs : Nat → Int32} {A : Nat → Prop} {q : sx_M}
variable {ad : List Nat} {rs : List Int32} {ls : Array Slot} {st : List Value} {H : Heap} {locs : List Loc} {cells slots : Nat} {Q : State → Prop}
theorem sx_p1_cons {a : Nat} {t : List Nat} {k : Nat → List Nat → sx_R} : sx_p1 (a :: t) k = k a t := rfl
theorem sx_sIf (IH : sx_Ok N ih) (hC : sx_Cx p e R s m meth c D K b N xs A mi d q) (hA : sx_At R s c D K b N xs A ad rs cells slots locs L S h n sy cs ss ls st H) (hL : sx_Ls p l e R s m args below meth c D K b N xs A Q ad rs lst) (hQ : ∀ o ∈ outs, ∀ t, sx_En R s below D K b A ad rs o t → Q t)
    (hk : sx_k6 q pc w = true) (hr : sx_oIf ih w d mi (sx_mt mi).1 lst pc L S h n sy cs ss = some outs) : W p l e R s m args below meth c H locs cells slots Q (F0 m pc ls st) := by
  obtain ⟨-, hx, -, hb, hml, -, -, -, hown, -, hT, -⟩ := id hC
  obtain ⟨hLc, hSt, hrest⟩ := id hA
  unfold sx_oIf at hr
  cases S with
  | nil => cases hr
  | cons x r =>
  obtain ⟨i1, hr⟩ := sx_if_ok (show sx_if (Nat.ble (sx_tg x) 1) _ none = some outs from hr)
  obtain ⟨vx, st2, rfl, hvx, hSt2⟩ := hSt.cons
  obtain ⟨zx, rfl⟩ := hvx.i (sx_ble i1)
  have hvy : sx_V b ad rs 0 (.int 0) := Or.inl ⟨rfl, rfl⟩
  unfold sx_k6 at hk
  simp only [Bool.and_eq_true, decide_eq_true_eq] at hk
  obtain ⟨ho, hk⟩ := hk
  obtain ⟨hY, hG, hS, hxs, hrm⟩ := id hrest
  obtain ⟨sy', outs', a1, a2, a3, a4⟩ := sx_cmp_ok ho hr hY hvx hvy
  simp only [sx_fo_eq] at a1
  have gt : sx_cb (sx_wa w) (sx_b zx) (sx_b 0) = true → W p l e R s m args below meth c H locs cells slots Q (F0 m (sx_wb w) ls st2) := fun hc => by
    rw [hc] at a1
    exact sx_go IH a1 hC ⟨hLc, hSt2, a3, hG, hS, hxs, hrm⟩ hL List.prefix_rfl List.prefix_rfl a2 hQ
  have gf : sx_cb (sx_wa w) (sx_b zx) (sx_b 0) = false → W p l e R s m args below meth c H locs cells slots Q (F0 m (pc + 3) ls st2) := fun hc => by
    rw [hc] at a1
    exact sx_go IH a1 hC ⟨hLc, hSt2, a3, hG, hS, hxs, hrm⟩ hL List.prefix_rfl List.prefix_rfl a2 hQ
  have hd := sx_dc_ok hk
  have ht : (pc : Int) + sx_of pc (sx_wb w) = (sx_wb w : Int) := by unfold sx_of; omega
  rcases (show sx_wa w = 0 ∨ sx_wa w = 1 ∨ sx_wa w = 2 ∨ sx_wa w = 3 ∨ sx_wa w = 4 ∨ sx_wa w = 5 by omega) with ho | ho | ho | ho | ho | ho
  all_goals rw [ho] at hd gt gf
  · exact lv_if_eq hx hb hd ht (fun hc => gt (sx_beq_t (sx_b_eq.mpr hc))) (fun hc => gf (sx_beq_e (fun h => hc (sx_b_eq.mp h))))
  · exact lv_if_ne hx hb hd ht (fun hc => gt (by show (!Nat.beq _ _) = true; rw [sx_beq_e (fun h => hc (sx_b_eq.mp h))]; rfl)) (fun hc => gf (by show (!Nat.beq _ _) = false; rw [sx_beq_t (sx_b_eq.mpr hc)]; rfl))
  · exact lv_if_lt hx hb hd ht (fun hc => gt (sx_blt_t (sx_b_ltI.mpr hc))) (fun hc => gf (sx_blt_e (fun h => hc (sx_b_ltI.mp h))))
  · exact lv_if_ge hx hb hd ht (fun hc => gt (Nat.ble_eq_true_of_le (sx_b_leI.mpr hc))) (fun hc => gf (sx_ble_e (fun h => hc (sx_b_leI.mp h))))
  · exact lv_if_gt hx hb hd ht (fun hc => gt (sx_blt_t (sx_b_ltI.mpr hc))) (fun hc => gf (sx_blt_e (fun h => hc (sx_b_ltI.mp h))))
  · exact lv_if_le hx hb hd ht (fun hc => gt (Nat.ble_eq_true_of_le (sx_b_leI.mpr hc))) (fun hc => gf (sx_ble_e (fun h => hc (sx_b_leI.mp h))))
theorem sx_sIcmp (IH : sx_Ok N ih) (hC : sx_Cx p e R s m meth c D K b N xs A mi d q) (hA : sx_At R s c D K b N xs A ad rs cells slots locs L S h n sy cs ss ls st H) (hL : sx_Ls p l e R s m args below meth c D K b N xs A Q ad rs lst) (hQ : ∀ o ∈ outs, ∀ t, sx_En R s below D K b A ad rs o t → Q t)
    (hk : sx_k7 q pc w = true) (hr : sx_oIcmp ih w d mi (sx_mt mi).1 lst pc L S h n sy cs ss = some outs) : W p l e R s m args below meth c H locs cells slots Q (F0 m pc ls st) := by
  obtain ⟨-, hx, -, hb, hml, -, -, -, hown, -, hT, -⟩ := id hC
  obtain ⟨hLc, hSt, hrest⟩ := id hA
  unfold sx_oIcmp at hr
  cases S with
  | nil => cases hr
  | cons y r =>
  cases r with
  | nil => cases hr
  | cons x r =>
  obtain ⟨hii, hr⟩ := sx_if_ok (show sx_if (sx_ii x y) _ none = some outs from hr)
  obtain ⟨i1, i2⟩ := sx_and_ok hii
  obtain ⟨vy, st1, rfl, hvy, hSt1⟩ := hSt.cons
  obtain ⟨vx, st2, rfl, hvx, hSt2⟩ := hSt1.cons
  obtain ⟨zx, rfl⟩ := hvx.i (sx_ble i1)
  obtain ⟨zy, rfl⟩ := hvy.i (sx_ble i2)
  unfold sx_k7 at hk
  simp only [Bool.and_eq_true, decide_eq_true_eq] at hk
  obtain ⟨ho, hk⟩ := hk
  obtain ⟨hY, hG, hS, hxs, hrm⟩ := id hrest
  obtain ⟨sy', outs', a1, a2, a3, a4⟩ := sx_cmp_ok ho hr hY hvx hvy
  simp only [sx_fo_eq] at a1
  have gt : sx_cb (sx_wa w) (sx_b zx) (sx_b zy) = true → W p l e R s m args below meth c H locs cells slots Q (F0 m (sx_wb w) ls st2) := fun hc => by
    rw [hc] at a1
    exact sx_go IH a1 hC ⟨hLc, hSt2, a3, hG, hS, hxs, hrm⟩ hL List.prefix_rfl List.prefix_rfl a2 hQ
  have gf : sx_cb (sx_wa w) (sx_b zx) (sx_b zy) = false → W p l e R s m args below meth c H locs cells slots Q (F0 m (pc + 3) ls st2) := fun hc => by
    rw [hc] at a1
    exact sx_go IH a1 hC ⟨hLc, hSt2, a3, hG, hS, hxs, hrm⟩ hL List.prefix_rfl List.prefix_rfl a2 hQ
  have hd := sx_dc_ok hk
  have ht : (pc : Int) + sx_of pc (sx_wb w) = (sx_wb w : Int) := by unfold sx_of; omega
  rcases (show sx_wa w = 0 ∨ sx_wa w = 1 ∨ sx_wa w = 2 ∨ sx_wa w = 3 ∨ sx_wa w = 4 ∨ sx_wa w = 5 by omega) with ho | ho | ho | ho | ho | ho
  all_goals rw [ho] at hd gt gf
  · exact lv_icmp_eq hx hb hd ht (fun hc => gt (sx_beq_t (sx_b_eq.mpr hc))) (fun hc => gf (sx_beq_e (fun h => hc (sx_b_eq.mp h))))
  · exact lv_icmp_ne hx hb hd ht (fun hc => gt (by show (!Nat.beq _ _) = true; rw [sx_beq_e (fun h => hc (sx_b_eq.mp h))]; rfl)) (fun hc => gf (by show (!Nat.beq _ _) = false; rw [sx_beq_t (sx_b_eq.mpr hc)]; rfl))
  · exact lv_icmp_lt hx hb hd ht (fun hc => gt (sx_blt_t (sx_b_ltI.mpr hc))) (fun hc => gf (sx_blt_e (fun h => hc (sx_b_ltI.mp h))))
  · exact lv_icmp_ge hx hb hd ht (fun hc => gt (Nat.ble_eq_true_of_le (sx_b_leI.mpr hc))) (fun hc => gf (sx_ble_e (fun h => hc (sx_b_leI.mp h))))
  · exact lv_icmp_gt hx hb hd ht (fun hc => gt (sx_blt_t (sx_b_ltI.mpr hc))) (fun hc => gf (sx_blt_e (fun h => hc (sx_b_ltI.mp h))))
  · exact lv_icmp_le hx hb hd ht (fun hc => gt (Nat.ble_eq_true_of_le (sx_b_leI.mpr hc))) (fun hc => gf (sx_ble_e (fun h => hc (sx_b_leI.mp h))))
theorem sx_sGoto (IH : sx_Ok N ih) (hC : sx_Cx p e R s m meth c D K b N xs A mi d q) (hA : sx_At R s c D K b N xs A ad rs cells slots locs L S h n sy cs ss ls st H) (hL : sx_Ls p l e R s m args below meth c D K b N xs A Q ad rs lst) (hQ : ∀ o ∈ outs, ∀ t, sx_En R s below D K b A ad rs o t → Q t)
    (hk : sx_k8 q pc w = true) (hr : sx_oGoto ih w d mi (sx_mt mi).1 lst L S h n sy cs ss = some outs) : W p l e R s m args below meth c H locs cells slots Q (F0 m pc ls st) := by
  obtain ⟨-, hx, -, hb, hml, -, -, -, hown, -, hT, -⟩ := id hC
  obtain ⟨hLc, hSt, hrest⟩ := id hA
  unfold sx_oGoto at hr
  rw [sx_fo_eq] at hr
  exact lv_goto hx hb (sx_dc_ok hk) (by unfold sx_of; omega) (sx_go IH hr hC hA hL List.prefix_rfl List.prefix_rfl (fun _ h => h) hQ)
theorem sx_sDup (IH : sx_Ok N ih) (hC : sx_Cx p e R s m meth c D K b N xs A mi d q) (hA : sx_At R s c D K b N xs A ad rs cells slots locs L S h n sy cs ss ls st H) (hL : sx_Ls p l e R s m args below meth c D K b N xs A Q ad rs lst) (hQ : ∀ o ∈ outs, ∀ t, sx_En R s below D K b A ad rs o t → Q t)
    (hk : sx_dc q pc .dup 1 = true) (hr : sx_oDup ih d mi (sx_mt mi).1 lst pc L S h n sy cs ss = some outs) : W p l e R s m args below meth c H locs cells slots Q (F0 m pc ls st) := by
  obtain ⟨-, hx, -, hb, hml, -, -, -, hown, -, hT, -⟩ := id hC
  obtain ⟨hLc, hSt, hrest⟩ := id hA
  unfold sx_oDup at hr
  cases S with
  | nil => cases hr
  | cons v r =>
  have hr : sx_if (Nat.beq (sx_tg v) 4) none _ = some outs := hr
  obtain ⟨x, st', rfl, hv, hSt'⟩ := hSt.cons
  cases h4 : Nat.beq (sx_tg v) 4 with
  | true => rw [h4] at hr; cases hr
  | false =>
    rw [h4, sx_if_f, sx_fo_eq] at hr
    exact lv_dup hx hb (sx_dc_ok hk) (hv.c1 (sx_beq_f h4)) (sx_go IH hr hC ⟨hLc, ⟨hv, hv, hSt'⟩, hrest⟩ hL List.prefix_rfl List.prefix_rfl (fun _ h => h) hQ)
theorem sx_sPop (IH : sx_Ok N ih) (hC : sx_Cx p e R s m meth c D K b N xs A mi d q) (hA : sx_At R s c D K b N xs A ad rs cells slots locs L S h n sy cs ss ls st H) (hL : sx_Ls p l e R s m args below meth c D K b N xs A Q ad rs lst) (hQ : ∀ o ∈ outs, ∀ t, sx_En R s below D K b A ad rs o t → Q t)
    (hk : sx_dc q pc .pop 1 = true) (hr : sx_oPop ih d mi (sx_mt mi).1 lst pc L S h n sy cs ss = some outs) : W p l e R s m args below meth c H locs cells slots Q (F0 m pc ls st) := by
  obtain ⟨-, hx, -, hb, hml, -, -, -, hown, -, hT, -⟩ := id hC
  obtain ⟨hLc, hSt, hrest⟩ := id hA
  unfold sx_oPop at hr
  cases S with
  | nil => cases hr
  | cons v r =>
  have hr : sx_if (Nat.beq (sx_tg v) 4) none _ = some outs := hr
  obtain ⟨x, st', rfl, hv, hSt'⟩ := hSt.cons
  cases h4 : Nat.beq (sx_tg v) 4 with
  | true => rw [h4] at hr; cases hr
  | false =>
    rw [h4, sx_if_f, sx_fo_eq] at hr
    exact lv_pop hx hb (sx_dc_ok hk) (hv.c1 (sx_beq_f h4)) (sx_go IH hr hC ⟨hLc, hSt', hrest⟩ hL List.prefix_rfl List.prefix_rfl (fun _ h => h) hQ)
theorem sx_sDup2 (IH : sx_Ok N ih) (hC : sx_Cx p e R s m meth c D K b N xs A mi d q) (hA : sx_At R s c D K b N xs A ad rs cells slots locs L S h n sy cs ss ls st H) (hL : sx_Ls p l e R s m args below meth c D K b N xs A Q ad rs lst) (hQ : ∀ o ∈ outs, ∀ t, sx_En R s below D K b A ad rs o t → Q t)
    (hk : sx_dc q pc .dup2 1 = true) (hr : sx_oDup2 ih d mi (sx_mt mi).1 lst pc L S h n sy cs ss = some outs) : W p l e R s m args below meth c H locs cells slots Q (F0 m pc ls st) := by
  obtain ⟨-, hx, -, hb, hml, -, -, -, hown, -, hT, -⟩ := id hC
  obtain ⟨hLc, hSt, hrest⟩ := id hA
  unfold sx_oDup2 at hr
  cases S with
  | nil => cases hr
  | cons v r =>
  obtain ⟨x, st', rfl, hv, hSt'⟩ := hSt.cons
  rw [sx_p1_cons] at hr
  simp only [sx_fo_eq] at hr
  cases h4 : Nat.beq (sx_tg v) 4 with
  | true =>
    rw [h4, sx_if_t] at hr
    have e := hv.t4 (sx_beq h4)
    exact lv_dup2_2 hx hb (sx_dc_ok hk) (by rw [e]; rfl) (sx_go IH hr hC ⟨hLc, ⟨hv, hv, hSt'⟩, hrest⟩ hL List.prefix_rfl List.prefix_rfl (fun _ h => h) hQ)
  | false =>
    rw [h4, sx_if_f] at hr
    cases r with
    | nil => cases hr
    | cons u r2 =>
    have hr : sx_if (Nat.beq (sx_tg u) 4) none _ = some outs := hr
    obtain ⟨y, st2, rfl, hu, hSt2⟩ := hSt'.cons
    cases g4 : Nat.beq (sx_tg u) 4 with
    | true => rw [g4] at hr; cases hr
    | false =>
      rw [g4, sx_if_f] at hr
      exact lv_dup2_11 hx hb (sx_dc_ok hk) (hv.c1 (sx_beq_f h4)) (hu.c1 (sx_beq_f g4)) (sx_go IH hr hC ⟨hLc, ⟨hv, hu, hv, hu, hSt2⟩, hrest⟩ hL List.prefix_rfl List.prefix_rfl (fun _ h => h) hQ)
theorem sx_V_j (z : Int64) : sx_V b ad rs (sx_j z) (.long z) := Or.inr (Or.inr (Or.inr (Or.inr (Or.inl ⟨(sx_j_ok z).1, by rw [(sx_j_ok z).2]⟩))))
theorem sx_sUn (IH : sx_Ok N ih) (hC : sx_Cx p e R s m meth c D K b N xs A mi d q) (hA : sx_At R s c D K b N xs A ad rs cells slots locs L S h n sy cs ss ls st H) (hL : sx_Ls p l e R s m args below meth c D K b N xs A Q ad rs lst) (hQ : ∀ o ∈ outs, ∀ t, sx_En R s below D K b A ad rs o t → Q t)
    (hk : sx_k32 q pc w = true) (hr : sx_oUn ih w d mi (sx_mt mi).1 lst pc L S h n sy cs ss = some outs) : W p l e R s m args below meth c H locs cells slots Q (F0 m pc ls st) := by
  obtain ⟨-, hx, -, hb, hml, -, -, -, hown, -, hT, -⟩ := id hC
  obtain ⟨hLc, hSt, hrest⟩ := id hA
  unfold sx_oUn at hr
  cases S with
  | nil => cases hr
  | cons v r =>
  obtain ⟨x, st', rfl, hv, hSt'⟩ := hSt.cons
  rw [sx_p1_cons] at hr
  simp only [sx_fo_eq] at hr
  obtain ⟨hY, hrest2⟩ := id hrest
  unfold sx_k32 at hk
  cases c2 : Nat.beq (sx_wa w) 2 with
  | true =>
    rw [c2, sx_if_t] at hr
    have w2 := sx_beq c2
    obtain ⟨h4, hr⟩ := sx_if_ok hr
    have e := hv.t4 (sx_beq h4)
    subst e
    rw [w2] at hk
    exact lv_l2i hx hb (sx_dc_ok (show sx_dc q pc .l2i 1 = true from hk)) rfl (sx_go IH hr hC ⟨hLc, ⟨sx_V_i _, hSt'⟩, hrest⟩ hL List.prefix_rfl List.prefix_rfl (fun _ h => h) hQ)
  | false =>
    rw [c2, sx_if_f] at hr
    obtain ⟨v', hr, hv', -⟩ := sx_nm_ok hr hY hv
    obtain ⟨h0, hr⟩ := sx_if_ok hr
    have e := hv'.t0 (sx_beq h0)
    subst e
    split at hk
    · rename_i w0
      rw [w0] at hr
      exact lv_ineg hx hb (sx_dc_ok hk) (sx_go IH hr hC ⟨hLc, ⟨sx_V_i _, hSt'⟩, hrest⟩ hL List.prefix_rfl List.prefix_rfl (fun _ h => h) hQ)
    split at hk
    · rename_i w1
      rw [w1] at hr
      exact lv_i2l hx hb (sx_dc_ok hk) rfl (sx_go IH hr hC ⟨hLc, ⟨sx_V_j _, hSt'⟩, hrest⟩ hL List.prefix_rfl List.prefix_rfl (fun _ h => h) hQ)
    · simp only [Bool.and_eq_true, decide_eq_true_eq] at hk
      exact absurd hk.1 (sx_beq_f c2)
theorem sx_sLb (IH : sx_Ok N ih) (hC : sx_Cx p e R s m meth c D K b N xs A mi d q) (hA : sx_At R s c D K b N xs A ad rs cells slots locs L S h n sy cs ss ls st H) (hL : sx_Ls p l e R s m args below meth c D K b N xs A Q ad rs lst) (hQ : ∀ o ∈ outs, ∀ t, sx_En R s below D K b A ad rs o t → Q t)
    (hk : sx_k35 q pc w = true) (hr : sx_oLb ih w d mi (sx_mt mi).1 lst pc L S h n sy cs ss = some outs) : W p l e R s m args below meth c H locs cells slots Q (F0 m pc ls st) := by
  obtain ⟨-, hx, -, hb, hml, -, -, -, hown, -, hT, -⟩ := id hC
  obtain ⟨hLc, hSt, hrest⟩ := id hA
  unfold sx_oLb at hr
  cases S with
  | nil => cases hr
  | cons v r =>
  cases r with
  | nil => cases hr
  | cons u r2 =>
  obtain ⟨vy, st1, rfl, hvy, hSt1⟩ := hSt.cons
  obtain ⟨vx, st2, rfl, hvx, hSt2⟩ := hSt1.cons
  obtain ⟨hc, hr⟩ := sx_if_ok (show sx_if (sx_and (Nat.beq (sx_tg u) 4) _) _ none = some outs from hr)
  obtain ⟨c1, hc⟩ := sx_and_ok hc
  obtain ⟨c2, hc⟩ := sx_and_ok hc
  have e1 := hvx.t4 (sx_beq c1)
  have e2 := hvy.t4 (sx_beq c2)
  subst e1
  subst e2
  simp only [sx_fo_eq] at hr
  unfold sx_k35 at hk
  split at hk
  · rename_i w0
    rw [w0] at hr
    exact lv_ladd hx hb (sx_dc_ok hk) (sx_go IH hr hC ⟨hLc, ⟨sx_V_j _, hSt2⟩, hrest⟩ hL List.prefix_rfl List.prefix_rfl (fun _ h => h) hQ)
  split at hk
  · rename_i w0
    rw [w0] at hr
    exact lv_lsub hx hb (sx_dc_ok hk) (sx_go IH hr hC ⟨hLc, ⟨sx_V_j _, hSt2⟩, hrest⟩ hL List.prefix_rfl List.prefix_rfl (fun _ h => h) hQ)
  split at hk
  · rename_i w0
    rw [w0] at hr
    exact lv_lmul hx hb (sx_dc_ok hk) (sx_go IH hr hC ⟨hLc, ⟨sx_V_j _, hSt2⟩, hrest⟩ hL List.prefix_rfl List.prefix_rfl (fun _ h => h) hQ)
  split at hk
  · rename_i w0
    rw [w0] at hr hc
    refine lv_ldiv hx hb (sx_dc_ok hk) (fun hz => ?_) (sx_go IH hr hC ⟨hLc, ⟨sx_V_j _, hSt2⟩, hrest⟩ hL List.prefix_rfl List.prefix_rfl (fun _ h => h) hQ)
    have hc : (!Nat.beq (Nat.mod (sx_pl v) 18446744073709551616) 0) = true := hc
    have h0 : Nat.beq (Nat.mod (sx_pl v) 18446744073709551616) 0 = true := by
      apply sx_beq_t
      have h1 : (Int64.ofNat (v / 8)).toBitVec.toNat = (0 : Int64).toBitVec.toNat := by rw [hz]
      rw [show (0 : Int64).toBitVec.toNat = 0 from rfl] at h1
      have h2 : (Int64.ofNat (v / 8)).toBitVec.toNat = v / 8 % 18446744073709551616 := by
        show (BitVec.ofNat 64 (v / 8)).toNat = _
        rw [BitVec.toNat_ofNat]
      rw [h2] at h1
      exact h1
    rw [h0] at hc
    cases hc
  · rename_i w0 w1 w2 w3
    have hw : sx_lf (sx_wa w) (Int64.ofNat (sx_pl u)) (Int64.ofNat (sx_pl v)) = sx_i (lg_cmp (Int64.ofNat (u / 8)) (Int64.ofNat (v / 8))) := by
      unfold sx_lf
      rw [sx_beq_e w0, sx_beq_e w1, sx_beq_e w2, sx_beq_e w3]
      rfl
    rw [hw] at hr
    exact W.lcmp hx hb (sx_dc_ok hk) (sx_go IH hr hC ⟨hLc, ⟨sx_V_i _, hSt2⟩, hrest⟩ hL List.prefix_rfl List.prefix_rfl (fun _ h => h) hQ)
end SXOps3
end
section
/-! sx: fields -/
section SXHeap
variable {N : Nat} {ih : sx_ih} {w d mi pc n cs ss : Nat} {lst : List sx_I} {L S : List Nat} {h : sx_H} {sy : sx_Y} {outs : List sx_O}
variable {p : Program} {l : Launch} {e : Env} {R : Room} {s : State} {m : MethodId} {args : Array Value} {below : List Frame} {meth : Method} {c : Code} {D : va_G} {K : ClassId → FieldType → Prop} {b : Nat → Nat} {xs : Nat → Int32} {A : Nat → Prop} {q : sx_M}
variable {ad : List Nat} {rs : List Int32} {ls : Array Slot} {st : List Value} {H : Heap} {locs : List Loc} {cells slots : Nat} {Q : State → Prop}
theorem sx_ix_ok {i : Nat} {X : Value} {k : Nat → sx_Y → sx_R} (h : sx_ix i sy k = some outs) (hy : sx_Yok rs sy) (hv : sx_V b ad rs i X) : ∃ x sy' outs', X = .int (Int32.ofNat x) ∧ k x sy' = some outs' ∧ (∀ o ∈ outs', o ∈ outs) ∧ sx_Yok rs sy' ∧ sy'.length = sy.length := by
  unfold sx_ix at h
  obtain ⟨i', h, hv', -⟩ := sx_nm_ok h hy hv
  cases h0 : Nat.beq (sx_tg i') 0 with
  | true =>
    rw [h0, sx_if_t] at h
    exact ⟨_, sy, outs, hv'.t0 (sx_beq h0), h, fun _ h => h, hy, rfl⟩
  | false =>
    rw [h0, sx_if_f] at h
    obtain ⟨h1, h⟩ := sx_if_ok h
    obtain ⟨e, he, h⟩ := sx_opt_ok (show _ = some outs from h)
    rw [sx_nth_eq] at he
    obtain ⟨z, hz, rfl⟩ := hv'.t1 (sx_beq h1)
    obtain ⟨r1, r2, -⟩ := hy.2 _ z e hz he
    obtain ⟨s1, o1, a1, a2, a3, a4, ⟨u, v, a5⟩, -⟩ := sx_en_ok h hy hz r1 r2
    obtain ⟨e3, he3, a1⟩ := sx_opt_ok (show _ = some o1 from a1)
    rw [sx_nth_eq] at he3
    cases he3.symm.trans a5
    rw [sx_fo_eq] at a1
    exact ⟨_, s1, o1, by rw [sx_b_back], a1, a2, a3, a4⟩
theorem sx_in_ok {x n : Nat} (h : x < n) (hn : n ≤ 5000) : vp_in (Int32.ofNat x) n ∧ (Int32.ofNat x).toNatClampNeg = x := ⟨vp_in_nI h (by omega), nI_clamp (n := x) (by omega)⟩
theorem sx_KA {cA : ClassId} {ty : FieldType} (hT : sx_Tb D K s) (hk : K cA ty) : va_K D sx_classes [(cA, ty)] s := by
  obtain ⟨-, -, -, -, -, h6, h7⟩ := hT
  refine ⟨h6.1, fun k q hq => ?_⟩
  have hz : k < 1 := (List.getElem?_eq_some_iff.mp hq).1
  rw [show k = 0 by omega] at hq
  cases hq
  exact (h7 cA ty).mp hk
theorem sx_slot_ok {ci k : Nat} (hk : k < 170) (h : sx_slot ci k ≠ 0) : ci < 12 ∧ sx_rF ci k = true := by
  have h1 : ci < 12 := by
    rcases Nat.lt_or_ge ci 12 with q | q
    · exact q
    · exfalso
      apply h
      show (sx_fields >>> (8 * (ci * 256 + k))) % 256 = 0
      have hb := of_decide_eq_true sx_big_ok
      have h2 : sx_fields < 2 ^ (8 * (ci * 256 + k)) := Nat.lt_of_lt_of_le hb (Nat.pow_le_pow_right (by decide) (by omega))
      rw [Nat.shiftRight_eq_div_pow, Nat.div_eq_of_lt h2]
  exact ⟨h1, List.all_eq_true.mp (List.all_eq_true.mp sx_rF_ok ci (List.mem_range.mpr h1)) k (List.mem_range.mpr hk)⟩
/-- a field by a link: its row, its class, its place, how the link's class stands to it, its kind -/
theorem sx_field {ci k : Nat} {t : String × Nat × String × String × String} (ht : sx_fl[k]? = some t) (h : sx_slot ci k ≠ 0) : ∃ C, sx_classes[ci]? = some C ∧ 0 < sx_slot ci k % 32 ∧ sx_slot ci k % 32 - 1 < C.2.2 ∧ (C.2.1 (sx_slot ci k % 32 - 1)).2.1 = t.2.2.2.1 ∧ (C.2.1 (sx_slot ci k % 32 - 1)).2.2.1 = t.2.2.2.2 ∧
    (t.2.2.1 = (C.2.1 (sx_slot ci k % 32 - 1)).1 ∨ Cond.sameField t.2.2.1 (C.2.1 (sx_slot ci k % 32 - 1)).1 t.2.2.2.1 t.2.2.2.2 ∈ sx_wl) ∧
    (if sx_slot ci k / 32 = 0 then (C.2.1 (sx_slot ci k % 32 - 1)).2.2.1 = "I" else if sx_slot ci k / 32 = 1 then (C.2.1 (sx_slot ci k % 32 - 1)).2.2.1 = "Z" else ((∃ x, sx_fty (C.2.1 (sx_slot ci k % 32 - 1)).2.2.1 = .object x) ∨ ∃ x, sx_fty (C.2.1 (sx_slot ci k % 32 - 1)).2.2.1 = .array x)) := by
  have hk : k < 170 := by rw [← sx_fl_len.1]; exact (List.getElem?_eq_some_iff.mp ht).1
  obtain ⟨-, h1⟩ := sx_slot_ok hk h
  unfold sx_rF at h1
  dsimp only at h1
  rw [if_neg h] at h1
  obtain ⟨t', ht', h1⟩ := sx_oa_ok h1
  cases ht.symm.trans ht'
  obtain ⟨C, hC, h1⟩ := sx_oa_ok h1
  simp only [Bool.and_eq_true, Bool.or_eq_true, decide_eq_true_eq] at h1
  obtain ⟨a1, a2, a3, a4, a5, a6⟩ := h1
  refine ⟨C, hC, a1, a2, a3, a4, ?_, ?_⟩
  · rcases a5 with a5 | a5
    · exact Or.inl a5
    · exact Or.inr (sx_isW_ok (List.all_eq_true.mp sx_sames_ok _ (List.contains_iff_mem.mp a5)))
  · by_cases c0 : sx_slot ci k / 32 = 0
    · rw [if_pos c0] at a6 ⊢; exact of_decide_eq_true a6
    · rw [if_neg c0] at a6 ⊢
      by_cases c1 : sx_slot ci k / 32 = 1
      · rw [if_pos c1] at a6 ⊢; exact of_decide_eq_true a6
      · rw [if_neg c1] at a6 ⊢
        split at a6
        · rename_i x hx; exact Or.inl ⟨x, hx⟩
        · rename_i x hx; exact Or.inr ⟨x, hx⟩
        · cases a6
theorem sx_same_ok {ref own nm ds : String} (hT : sx_Tb D K s) (h : ref = own ∨ Cond.sameField ref own nm ds ∈ sx_wl) : ∀ x, s.fieldFound? own nm ds = some x → s.fieldFound? ref nm ds = some x := by
  intro x hx
  rcases h with rfl | h
  · exact hx
  · exact u_same (args := #[]) (hT.1 #[] _ h) x hx
theorem sx_sGet (IH : sx_Ok N ih) (hC : sx_Cx p e R s m meth c D K b N xs A mi d q) (hA : sx_At R s c D K b N xs A ad rs cells slots locs L S h n sy cs ss ls st H) (hL : sx_Ls p l e R s m args below meth c D K b N xs A Q ad rs lst) (hQ : ∀ o ∈ outs, ∀ t, sx_En R s below D K b A ad rs o t → Q t)
    (hk : sx_k9 q pc w = true) (hr : sx_oGet ih w d mi (sx_mt mi).1 lst pc L S h n sy cs ss = some outs) : W p l e R s m args below meth c H locs cells slots Q (F0 m pc ls st) := by
  obtain ⟨-, hx, -, hb, hml, -, -, -, hown, -, hT, -⟩ := id hC
  obtain ⟨hLc, hSt, hrest⟩ := id hA
  unfold sx_oGet at hr
  cases S with
  | nil => cases hr
  | cons v r =>
  obtain ⟨x, st', rfl, hv, hSt'⟩ := hSt.cons
  rw [sx_p1_cons] at hr
  obtain ⟨hc, hr⟩ := sx_if_ok hr
  obtain ⟨c1, -⟩ := sx_and_ok hc
  simp only [sx_rdK_eq, sx_fo_eq] at hr
  obtain ⟨a, ha, rfl⟩ := hv.t2 (sx_beq c1)
  unfold sx_k9 at hk
  obtain ⟨t, ht, hk⟩ := sx_oa_ok hk
  simp only [Bool.and_eq_true, decide_eq_true_eq] at hk
  obtain ⟨hcls, hd⟩ := hk
  cases h0 : Nat.beq (sx_slot (Nat.mod (sx_rd h (sx_pl v)).1 256) (sx_wa w)) 0 with
  | true => rw [h0] at hr; cases hr
  | false =>
  rw [h0, sx_if_f] at hr
  have hs0 : sx_slot ((sx_rd h (v / 8)).1 % 256) (sx_wa w) ≠ 0 := sx_beq_f h0
  obtain ⟨hY, hG, hrest2⟩ := id hrest
  obtain ⟨ws, e, hP, hD, g3, g4, g5, g6, he, hE⟩ := hG.at ha
  obtain ⟨C, hC1, j0, j1, f1, f2, f3, -⟩ := sx_field ht hs0
  have hci : (sx_rd h (v / 8)).1 % 256 < 12 := by rw [← sx_fl_len.2]; exact (List.getElem?_eq_some_iff.mp hC1).1
  rcases hE with ⟨ci, fs, rfl, e2, ⟨C', e3, e3b⟩, e4, e5⟩ | ⟨cA, f, -, e2, -⟩ | ⟨cA, f, -, e2, -⟩ | ⟨cA, f, -, e2, -⟩
  · rw [e2] at hC1
    cases hC1.symm.trans e3
    rw [← e2] at e3
    obtain ⟨C0, C1, C2⟩ := C
    have hj : (sx_slot ((sx_rd h (v / 8)).1 % 256) (sx_wa w)) % 32 - 1 < fs.length := by rw [← e3b]; exact j1
    obtain ⟨u, hu⟩ : ∃ u, fs[(sx_slot ((sx_rd h (v / 8)).1 % 256) (sx_wa w)) % 32 - 1]? = some u := ⟨_, List.getElem?_eq_getElem hj⟩
    have hin := sx_cls_in e3
    subst e2
    exact va_get hx hb (hT.1 args) hin.1 hown hT.2.2.2.2.2.1 hP (v / 8) he e3 _ j1 (index := t.2.1) (ref := t.2.2.1) (by rw [f1, f2, ← hcls]; exact hT.1 args _ (sx_fl_in ht)) (by rw [f1, f2]; exact sx_same_ok hT f3) hu (sx_dc_ok hd) (sx_go IH hr hC ⟨hLc, ⟨e5 _ _ hu, hSt'⟩, hrest⟩ hL List.prefix_rfl List.prefix_rfl (fun _ h => h) hQ)
  · omega
  · omega
  · omega
end SXHeap
end
section
/-! sx: a field is written -/
section SXPut
variable {N : Nat} {ih : sx_ih} {w d mi pc n cs ss : Nat} {lst : List sx_I} {L S : List Nat} {h : sx_H} {sy : sx_Y} {outs : List sx_O}
variable {p : Program} {l : Launch} {e : Env} {R : Room} {s : State} {m : MethodId} {args : Array Value} {below : List Frame} {meth : Method} {c : Code} {D : va_G} {K : ClassId → FieldType → Prop} {b : Nat → Nat} {xs : Nat → Int32} {A : Nat → Prop} {q : sx_M}
variable {ad : List Nat} {rs : List Int32} {ls : Array Slot} {st : List Value} {H : Heap} {locs : List Loc} {cells slots : Nat} {Q : State → Prop}
theorem sx_E.put {c' : Nat × Nat} {ci j v : Nat} {fs : List Value} {x : Value} (hE : sx_E K b ad rs c' (.inr (ci, fs))) (hv : sx_V b ad rs v x) (hv72 : v < 2 ^ 72) : sx_E K b ad rs (c'.1, sx_set c'.2 j v) (.inr (ci, fs.set j x)) := by
  rcases hE with ⟨ci', fs', e1, e2, ⟨C, e3, e4⟩, e5, e6⟩ | ⟨cA, f, e1, -⟩ | ⟨cA, f, e1, -⟩ | ⟨cA, f, e1, -⟩
  · cases e1
    refine Or.inl ⟨ci, _, rfl, e2, ⟨C, e3, by rw [List.length_set]; exact e4⟩, by rw [List.length_set]; exact e5, fun i u hi => ?_⟩
    by_cases hij : i = j
    · subst hij
      have hl : i < fs.length := by have := (List.getElem?_eq_some_iff.mp hi).1; rw [List.length_set] at this; exact this
      rw [List.getElem?_set_self hl] at hi
      cases hi
      show sx_V b ad rs (sx_get (sx_set c'.2 i v) i) x
      rw [sx_get_set hv72]
      exact hv
    · rw [List.getElem?_set_ne (Ne.symm hij)] at hi
      show sx_V b ad rs (sx_get (sx_set c'.2 j v) i) u
      rw [sx_get_set_ne hv72 hij]
      exact e6 i u hi
  · cases e1
  · cases e1
  · cases e1
theorem sx_E.iput {c' : Nat × Nat} {j v : Nat} {cA : ClassId} {k : Nat} {f : Nat → Int32} {x : Int32} (hE : sx_E K b ad rs c' (.inl (cA, k, .inl f))) (hv : sx_V b ad rs v (.int x)) (hv72 : v < 2 ^ 72) : sx_E K b ad rs (c'.1, sx_set c'.2 j v) (.inl (cA, k, .inl (upd f j x))) := by
  rcases hE with ⟨ci', fs', e1, -⟩ | ⟨cA', f', e1, e2, e3, e4⟩ | ⟨cA, f, e1, -⟩ | ⟨cA, f, e1, -⟩
  · cases e1
  · cases e1
    refine Or.inr (Or.inl ⟨cA, _, rfl, e2, e3, fun i hi => ?_⟩)
    by_cases hij : i = j
    · subst hij
      show sx_V b ad rs (sx_get (sx_set c'.2 i v) i) _
      rw [sx_get_set hv72, pk_us]
      exact hv
    · show sx_V b ad rs (sx_get (sx_set c'.2 j v) i) _
      rw [sx_get_set_ne hv72 hij, pk_un hij]
      exact e4 i hi
  · cases e1
  · cases e1
theorem sx_E.lput {c' : Nat × Nat} {j v : Nat} {cA : ClassId} {k : Nat} {f : Nat → Int64} (hE : sx_E K b ad rs c' (.inl (cA, k, .inr (.inl f)))) (hv : v % 8 = 4) (hv72 : v < 2 ^ 72) : sx_E K b ad rs (c'.1, sx_set c'.2 j (v - 4)) (.inl (cA, k, .inr (.inl (vp_updL f j (Int64.ofNat (v / 8)))))) := by
  rcases hE with ⟨ci', fs', e1, -⟩ | ⟨cA', f', e1, -⟩ | ⟨cA', f', e1, e2, e3, e4⟩ | ⟨cA, f, e1, -⟩
  · cases e1
  · cases e1
  · cases e1
    have hv73 : v - 4 < 2 ^ 72 := by omega
    refine Or.inr (Or.inr (Or.inl ⟨cA, _, rfl, e2, e3, fun i hi => ?_⟩))
    by_cases hij : i = j
    · subst hij
      show sx_get (sx_set c'.2 i (v - 4)) i % 8 = 0 ∧ vp_updL f i _ i = Int64.ofNat (sx_get (sx_set c'.2 i (v - 4)) i / 8)
      rw [sx_get_set hv73, pk_uLs]
      exact ⟨by omega, by rw [show (v - 4) / 8 = v / 8 by omega]⟩
    · show sx_get (sx_set c'.2 j (v - 4)) i % 8 = 0 ∧ vp_updL f j _ i = Int64.ofNat (sx_get (sx_set c'.2 j (v - 4)) i / 8)
      rw [sx_get_set_ne hv73 hij, pk_uLn hij]
      exact e4 i hi
  · cases e1
theorem sx_E.qput {c' : Nat × Nat} {j v a : Nat} {cA : ClassId} {k : Nat} {f : Nat → Option Nat} (hE : sx_E K b ad rs c' (.inl (cA, k, .inr (.inr (.inr (.inr f)))))) (hv : v % 8 = 2) (ha : ad[v / 8]? = some a) (hv72 : v < 2 ^ 72) : sx_E K b ad rs (c'.1, sx_set c'.2 j v) (.inl (cA, k, .inr (.inr (.inr (.inr (va_up f j (some a))))))) := by
  rcases hE with ⟨ci', fs', e1, -⟩ | ⟨cA', f', e1, -⟩ | ⟨cA', f', e1, -⟩ | ⟨cA', f', e1, e2, e3, e4⟩
  · cases e1
  · cases e1
  · cases e1
  · cases e1
    refine Or.inr (Or.inr (Or.inr ⟨cA, _, rfl, e2, e3, fun i hi => ?_⟩))
    by_cases hij : i = j
    · subst hij
      right
      show ∃ q, va_up f i (some a) i = some q ∧ sx_get (sx_set c'.2 i v) i % 8 = 2 ∧ ad[sx_get (sx_set c'.2 i v) i / 8]? = some q
      rw [sx_get_set hv72]
      exact ⟨a, by simp [va_up], hv, ha⟩
    · show (sx_get (sx_set c'.2 j v) i = 0 ∧ va_up f j (some a) i = none) ∨ ∃ q, va_up f j (some a) i = some q ∧ sx_get (sx_set c'.2 j v) i % 8 = 2 ∧ ad[sx_get (sx_set c'.2 j v) i / 8]? = some q
      rw [sx_get_set_ne hv72 hij, show va_up f j (some a) i = f i by simp [va_up, hij]]
      exact e4 i hi
theorem sx_fit_ref {ty : FieldType} {a : Nat} (h : (∃ x, ty = .object x) ∨ ∃ x, ty = .array x) : narrow ty (.ref a) = .ref a ∧ fits ty (.ref a) = true := by
  rcases h with ⟨x, rfl⟩ | ⟨x, rfl⟩ <;> exact ⟨rfl, rfl⟩
theorem sx_fit_bool {v : Nat} (h : v ≤ 1) : narrow .boolean (.int (Int32.ofNat v)) = .int (Int32.ofNat v) ∧ fits .boolean (.int (Int32.ofNat v)) = true := by
  rcases (show v = 0 ∨ v = 1 by omega) with rfl | rfl <;> decide +kernel
theorem sx_fty_I : sx_fty "I" = .int := by decide +kernel
theorem sx_fty_Z : sx_fty "Z" = .boolean := by decide +kernel
theorem sx_sPut (IH : sx_Ok N ih) (hC : sx_Cx p e R s m meth c D K b N xs A mi d q) (hA : sx_At R s c D K b N xs A ad rs cells slots locs L S h n sy cs ss ls st H) (hL : sx_Ls p l e R s m args below meth c D K b N xs A Q ad rs lst) (hQ : ∀ o ∈ outs, ∀ t, sx_En R s below D K b A ad rs o t → Q t)
    (hk : sx_k10 q pc w = true) (hr : sx_oPut ih w d mi (sx_mt mi).1 lst pc L S h n sy cs ss = some outs) : W p l e R s m args below meth c H locs cells slots Q (F0 m pc ls st) := by
  obtain ⟨-, hx, -, hb, hml, -, -, -, hown, -, hT, -⟩ := id hC
  obtain ⟨hLc, hSt, hrest⟩ := id hA
  obtain ⟨-, -, -, -, -, -, hnm, -⟩ := id hC
  unfold sx_oPut at hr
  cases S with
  | nil => cases hr
  | cons v r =>
  cases r with
  | nil => cases hr
  | cons u r2 =>
  obtain ⟨x, st', rfl, hv, hSt'⟩ := hSt.cons
  obtain ⟨xo, st2, rfl, ho, hSt2⟩ := hSt'.cons
  rw [sx_p1_cons, sx_p1_cons] at hr
  obtain ⟨hc, hr⟩ := sx_if_ok hr
  obtain ⟨c1, -⟩ := sx_and_ok hc
  simp only [sx_rdK_eq, sx_fo_eq, sx_wrK_eq] at hr
  obtain ⟨a, ha, rfl⟩ := ho.t2 (sx_beq c1)
  unfold sx_k10 at hk
  obtain ⟨t, ht, hk⟩ := sx_oa_ok hk
  simp only [Bool.and_eq_true, decide_eq_true_eq] at hk
  obtain ⟨hcls, hd, hpf⟩ := hk
  cases h0 : Nat.beq (sx_slot (Nat.mod (sx_rd h (sx_pl u)).1 256) (sx_wa w)) 0 with
  | true => rw [h0] at hr; cases hr
  | false =>
  rw [h0, sx_if_f] at hr
  obtain ⟨hty, hr⟩ := sx_if_ok hr
  obtain ⟨h72, hr⟩ := sx_if_ok hr
  have h72 : v < 2 ^ 72 := sx_blt h72
  have hs0 : sx_slot ((sx_rd h (u / 8)).1 % 256) (sx_wa w) ≠ 0 := sx_beq_f h0
  obtain ⟨hY, hG, hS, hxs, hrm⟩ := id hrest
  obtain ⟨ws, e, hP, hD, g3, g4, g5, g6, he, hE⟩ := hG.at ha
  obtain ⟨C, hC1, j0, j1, f1, f2, f3, f4⟩ := sx_field ht hs0
  have hci : (sx_rd h (u / 8)).1 % 256 < 12 := by rw [← sx_fl_len.2]; exact (List.getElem?_eq_some_iff.mp hC1).1
  have hpf1 := List.all_eq_true.mp hpf _ (List.mem_range.mpr hci)
  dsimp only at hpf1
  rw [if_neg hs0] at hpf1
  obtain ⟨C', hC1', hpf1⟩ := sx_oa_ok hpf1
  cases hC1.symm.trans hC1'
  have hE0 := hE
  rcases hE with ⟨ci, fs, rfl, e2, ⟨C', e3, e3b⟩, e4, e5⟩ | ⟨cA, f, -, e2, -⟩ | ⟨cA, f, -, e2, -⟩ | ⟨cA, f, -, e2, -⟩
  · rw [e2] at hC1
    cases hC1.symm.trans e3
    rw [← e2] at e3
    obtain ⟨C0, C1, C2⟩ := C
    dsimp only at j1 f1 f2 f3 f4 hpf1 e3b
    have hin := sx_cls_in e3
    subst e2
    generalize hsl : sx_slot ((sx_rd h (u / 8)).1 % 256) (sx_wa w) = sl at *
    have hfit : narrow (sx_fty (C1 (sl % 32 - 1)).2.2.1) x = x ∧ fits (sx_fty (C1 (sl % 32 - 1)).2.2.1) x = true := by
      have hty : sx_if (Nat.beq (Nat.div sl 32) 0) (Nat.ble (sx_tg v) 1) (sx_if (Nat.beq (Nat.div sl 32) 1) (sx_and (Nat.beq (sx_tg v) 0) (Nat.ble (sx_pl v) 1)) (Nat.beq (sx_tg v) 2)) = true := by rw [← hsl]; exact hty
      by_cases q0 : sl / 32 = 0
      · rw [if_pos q0] at f4
        rw [sx_beq_t (show Nat.div sl 32 = 0 from q0), sx_if_t] at hty
        obtain ⟨z, rfl⟩ := hv.i (sx_ble hty)
        rw [f4, sx_fty_I]
        exact ⟨vp_nar_int z, rfl⟩
      · rw [if_neg q0] at f4
        rw [sx_beq_e (show ¬ Nat.div sl 32 = 0 from q0), sx_if_f] at hty
        by_cases q1 : sl / 32 = 1
        · rw [if_pos q1] at f4
          rw [sx_beq_t (show Nat.div sl 32 = 1 from q1), sx_if_t] at hty
          obtain ⟨t1, t2⟩ := sx_and_ok hty
          rw [hv.t0 (sx_beq t1), f4, sx_fty_Z]
          exact sx_fit_bool (sx_ble t2)
        · rw [if_neg q1] at f4
          rw [sx_beq_e (show ¬ Nat.div sl 32 = 1 from q1), sx_if_f] at hty
          obtain ⟨z, -, rfl⟩ := hv.t2 (sx_beq hty)
          exact sx_fit_ref f4
    have kk : ∀ (H1 : Heap) (locs1 : List Loc), va_P D sx_classes (ws.set (u / 8) (a, .inr ((sx_rd h (u / 8)).1 % 256, fs.set (sl % 32 - 1) x))) H1 → va_D A (ws.set (u / 8) (a, .inr ((sx_rd h (u / 8)).1 % 256, fs.set (sl % 32 - 1) x))) → va_S A s.heap H1 locs1 → W p l e R s m args below meth c H1 locs1 cells slots Q (F0 m (pc + 3) ls st2) := by
      intro H1 locs1 hP1 hD1 hS1
      refine sx_go IH hr hC ⟨hLc, hSt2, hY, ?_, hS1, hxs, hrm⟩ hL List.prefix_rfl List.prefix_rfl (fun _ h => h) hQ
      rw [show sx_slot (Nat.mod (sx_rd h (sx_pl u)).1 256) (sx_wa w) = sl from hsl]
      exact sx_G.set g3 g4 g5 g6 he hP1 hD1 (sx_E.put hE0 hv h72)
    have hj : sl % 32 - 1 < fs.length := by rw [← e3b]; exact j1
    by_cases hfin : (C1 (sl % 32 - 1)).2.2.2 = true
    · rw [if_pos hfin] at hpf1
      simp only [Bool.and_eq_true, decide_eq_true_eq] at hpf1
      exact va_putF hx hb (hT.1 args) hin.1 (fun k => sx_fty (C1 k).2.2.1) hin.2.1 hin.2.2.2.2 hown hT.2.2.2.2.2.1 hP hD hS (u / 8) he e3 _ j1 (index := t.2.1) (ref := t.2.2.1) (by rw [f1, f2, ← hcls]; exact hT.1 args _ (sx_fl_in ht)) (by rw [f1, f2]; exact sx_same_ok hT f3) hfin (by rw [hnm]; exact hpf1.1) hpf1.2 (hin.2.1 _ j1) hfit.1 hfit.2 hj (sx_dc_ok hd) kk
    · have hfin : (C1 (sl % 32 - 1)).2.2.2 = false := by simpa using hfin
      exact va_put hx hb (hT.1 args) hin.1 (fun k => sx_fty (C1 k).2.2.1) hin.2.1 hin.2.2.2.2 hown hT.2.2.2.2.2.1 hP hD hS (u / 8) he e3 _ j1 (index := t.2.1) (ref := t.2.2.1) (by rw [f1, f2, ← hcls]; exact hT.1 args _ (sx_fl_in ht)) (by rw [f1, f2]; exact sx_same_ok hT f3) hfin (hin.2.1 _ j1) hfit.1 hfit.2 hj (sx_dc_ok hd) kk
  · omega
  · omega
  · omega
end SXPut
end
section
/-! sx: places of arrays -/
section SXArr
variable {N : Nat} {ih : sx_ih} {w d mi pc n cs ss : Nat} {lst : List sx_I} {L S : List Nat} {h : sx_H} {sy : sx_Y} {outs : List sx_O}
variable {p : Program} {l : Launch} {e : Env} {R : Room} {s : State} {m : MethodId} {args : Array Value} {below : List Frame} {meth : Method} {c : Code} {D : va_G} {K : ClassId → FieldType → Prop} {b : Nat → Nat} {xs : Nat → Int32} {A : Nat → Prop} {q : sx_M}
variable {ad : List Nat} {rs : List Int32} {ls : Array Slot} {st : List Value} {H : Heap} {locs : List Loc} {cells slots : Nat} {Q : State → Prop}
theorem sx_sIald (IH : sx_Ok N ih) (hC : sx_Cx p e R s m meth c D K b N xs A mi d q) (hA : sx_At R s c D K b N xs A ad rs cells slots locs L S h n sy cs ss ls st H) (hL : sx_Ls p l e R s m args below meth c D K b N xs A Q ad rs lst) (hQ : ∀ o ∈ outs, ∀ t, sx_En R s below D K b A ad rs o t → Q t)
    (hN31 : N < 2 ^ 31) (hk : sx_dc q pc .iaload 1 = true) (hr : sx_oAld ih N d mi (sx_mt mi).1 lst pc L S h n sy cs ss 100 = some outs) : W p l e R s m args below meth c H locs cells slots Q (F0 m pc ls st) := by
  obtain ⟨-, hx, -, hb, hml, -, -, -, hown, -, hT, -⟩ := id hC
  obtain ⟨hLc, hSt, hrest⟩ := id hA
  unfold sx_oAld at hr
  cases S with
  | nil => cases hr
  | cons v r =>
  cases r with
  | nil => cases hr
  | cons u r2 =>
  obtain ⟨xi, st1, rfl, hvi, hSt1⟩ := hSt.cons
  obtain ⟨xa, st2, rfl, hva, hSt2⟩ := hSt1.cons
  rw [sx_p1_cons, sx_p1_cons] at hr
  obtain ⟨hY, hG, hS, hxs, hrm⟩ := id hrest
  cases hc : sx_and (Nat.beq (sx_tg u) 2) (Nat.blt (sx_pl u) n) with
  | true =>
    rw [hc, sx_if_t] at hr
    obtain ⟨c1, -⟩ := sx_and_ok hc
    obtain ⟨x, sy', outs', rfl, hr, hsub, hY', -⟩ := sx_ix_ok hr hY hvi
    simp only [sx_rdK_eq, sx_fo_eq] at hr
    obtain ⟨hk2, hr⟩ := sx_if_ok hr
    obtain ⟨k1, k2⟩ := sx_and_ok hk2
    have k1 : (sx_rd h (u / 8)).1 % 256 = 100 := sx_beq k1
    have k2 : x < (sx_rd h (u / 8)).1 / 256 := sx_blt k2
    obtain ⟨a, ha, rfl⟩ := hva.t2 (sx_beq c1)
    obtain ⟨ws, e, hP, hD, g3, g4, g5, g6, he, hE⟩ := hG.at ha
    have hr : ih d mi (sx_mt mi).1 lst false (Nat.succ pc) L (sx_get (sx_rd h (u / 8)).2 x :: r2) h n sy' cs ss = some outs' := hr
    rcases hE with ⟨ci, fs, -, e2, ⟨C, e3, -⟩, -⟩ | ⟨cA, f, rfl, e2, e3, e4⟩ | ⟨cA, f, -, e2, -⟩ | ⟨cA, f, -, e2, -⟩
    · have := (List.getElem?_eq_some_iff.mp e3).1; rw [sx_fl_len.2] at this; omega
    · obtain ⟨i1, i2⟩ := sx_in_ok k2 e3.2
      have v := e4 x k2
      rw [← i2] at v
      exact va_iald hx hb (sx_KA hT e3.1) hP (u / 8) 0 he rfl i1 (sx_dc_ok hk) (sx_go IH hr hC ⟨hLc, ⟨by rw [i2] at v ⊢; exact v, hSt2⟩, hY', hG, hS, hxs, hrm⟩ hL List.prefix_rfl List.prefix_rfl hsub hQ)
    · omega
    · omega
  | false =>
    rw [hc, sx_if_f] at hr
    obtain ⟨h5, hr⟩ := sx_if_ok hr
    obtain ⟨h5, -⟩ := sx_and_ok h5
    have h5 : u = 5 := sx_beq h5
    obtain ⟨x, sy', outs', rfl, hr, hsub, hY', -⟩ := sx_ix_ok hr hY hvi
    obtain ⟨k2, hr⟩ := sx_if_ok hr
    have k2 : x < N := sx_blt k2
    have e := hva.t5 (by rw [h5])
    rw [show b (u / 8) = b 0 by rw [h5]] at e
    subst e
    obtain ⟨-, -, -, -, -, -, -, -, -, -, -, -, hX, hbl, hbA, -⟩ := id hC
    have hN : N < 2 ^ 31 := hN31
    have i1 : vp_in (Int32.ofNat x) N := vp_in_nI k2 hN
    have i2 : (Int32.ofNat x).toNatClampNeg = x := nI_clamp (n := x) (by omega)
    have v : sx_V b ad rs (Nat.succ (Nat.mul 8 x)) (.int (xs x)) := by
      have e : Nat.succ (Nat.mul 8 x) = 8 * x + 1 := rfl
      rw [e]
      exact Or.inr (Or.inl ⟨by omega, xs x, by rw [show (8 * x + 1) / 8 = x by omega]; exact hxs x k2, rfl⟩)
    obtain ⟨v', hr, v, -⟩ := sx_nm_ok hr hY' v
    simp only [sx_fo_eq] at hr
    exact va_sld hx hb hX hbl hbA hS i1 (sx_dc_ok hk) (sx_go IH hr hC ⟨hLc, ⟨by rw [i2]; exact v, hSt2⟩, hY', hG, hS, hxs, hrm⟩ hL List.prefix_rfl List.prefix_rfl hsub hQ)
theorem sx_sLald (IH : sx_Ok N ih) (hC : sx_Cx p e R s m meth c D K b N xs A mi d q) (hA : sx_At R s c D K b N xs A ad rs cells slots locs L S h n sy cs ss ls st H) (hL : sx_Ls p l e R s m args below meth c D K b N xs A Q ad rs lst) (hQ : ∀ o ∈ outs, ∀ t, sx_En R s below D K b A ad rs o t → Q t)
    (hk : sx_dc q pc .laload 1 = true) (hr : sx_oAld ih N d mi (sx_mt mi).1 lst pc L S h n sy cs ss 101 = some outs) : W p l e R s m args below meth c H locs cells slots Q (F0 m pc ls st) := by
  obtain ⟨-, hx, -, hb, hml, -, -, -, hown, -, hT, -⟩ := id hC
  obtain ⟨hLc, hSt, hrest⟩ := id hA
  unfold sx_oAld at hr
  cases S with
  | nil => cases hr
  | cons v r =>
  cases r with
  | nil => cases hr
  | cons u r2 =>
  obtain ⟨xi, st1, rfl, hvi, hSt1⟩ := hSt.cons
  obtain ⟨xa, st2, rfl, hva, hSt2⟩ := hSt1.cons
  rw [sx_p1_cons, sx_p1_cons] at hr
  obtain ⟨hY, hG, hS, hxs, hrm⟩ := id hrest
  cases hc : sx_and (Nat.beq (sx_tg u) 2) (Nat.blt (sx_pl u) n) with
  | true =>
    rw [hc, sx_if_t] at hr
    obtain ⟨c1, -⟩ := sx_and_ok hc
    obtain ⟨x, sy', outs', rfl, hr, hsub, hY', -⟩ := sx_ix_ok hr hY hvi
    simp only [sx_rdK_eq, sx_fo_eq] at hr
    obtain ⟨hk2, hr⟩ := sx_if_ok hr
    obtain ⟨k1, k2⟩ := sx_and_ok hk2
    have k1 : (sx_rd h (u / 8)).1 % 256 = 101 := sx_beq k1
    have k2 : x < (sx_rd h (u / 8)).1 / 256 := sx_blt k2
    obtain ⟨a, ha, rfl⟩ := hva.t2 (sx_beq c1)
    obtain ⟨ws, e, hP, hD, g3, g4, g5, g6, he, hE⟩ := hG.at ha
    have hr : sx_fo (Nat.add (sx_get (sx_rd h (u / 8)).2 x) 4) (fun v => ih d mi (sx_mt mi).1 lst false (Nat.succ pc) L (v :: r2) h n sy' cs ss) = some outs' := hr
    rw [sx_fo_eq] at hr
    rcases hE with ⟨ci, fs, -, e2, ⟨C, e3, -⟩, -⟩ | ⟨cA, f, -, e2, -⟩ | ⟨cA, f, rfl, e2, e3, e4⟩ | ⟨cA, f, -, e2, -⟩
    · have := (List.getElem?_eq_some_iff.mp e3).1; rw [sx_fl_len.2] at this; omega
    · omega
    · obtain ⟨i1, i2⟩ := sx_in_ok k2 e3.2
      obtain ⟨v1, v2⟩ := e4 x k2
      have v : sx_V b ad rs (Nat.add (sx_get (sx_rd h (u / 8)).2 x) 4) (.long (f (Int32.ofNat x).toNatClampNeg)) := by
        rw [i2, v2]
        refine Or.inr (Or.inr (Or.inr (Or.inr (Or.inl ⟨?_, ?_⟩))))
        · show (sx_get (sx_rd h (u / 8)).2 x + 4) % 8 = 4; omega
        · rw [show Nat.add (sx_get (sx_rd h (u / 8)).2 x) 4 / 8 = sx_get (sx_rd h (u / 8)).2 x / 8 from by show (sx_get (sx_rd h (u / 8)).2 x + 4) / 8 = _; omega]
      exact va_lald hx hb (sx_KA hT e3.1) hP (u / 8) 0 he rfl i1 (sx_dc_ok hk) (sx_go IH hr hC ⟨hLc, ⟨v, hSt2⟩, hY', hG, hS, hxs, hrm⟩ hL List.prefix_rfl List.prefix_rfl hsub hQ)
    · omega
  | false =>
    rw [hc, sx_if_f] at hr
    obtain ⟨h5, hr⟩ := sx_if_ok hr
    obtain ⟨-, h5⟩ := sx_and_ok h5
    cases h5
theorem sx_sAald (IH : sx_Ok N ih) (hC : sx_Cx p e R s m meth c D K b N xs A mi d q) (hA : sx_At R s c D K b N xs A ad rs cells slots locs L S h n sy cs ss ls st H) (hL : sx_Ls p l e R s m args below meth c D K b N xs A Q ad rs lst) (hQ : ∀ o ∈ outs, ∀ t, sx_En R s below D K b A ad rs o t → Q t)
    (hk : sx_dc q pc .aaload 1 = true) (hr : sx_oAld ih N d mi (sx_mt mi).1 lst pc L S h n sy cs ss 102 = some outs) : W p l e R s m args below meth c H locs cells slots Q (F0 m pc ls st) := by
  obtain ⟨-, hx, -, hb, hml, -, -, -, hown, -, hT, -⟩ := id hC
  obtain ⟨hLc, hSt, hrest⟩ := id hA
  unfold sx_oAld at hr
  cases S with
  | nil => cases hr
  | cons v r =>
  cases r with
  | nil => cases hr
  | cons u r2 =>
  obtain ⟨xi, st1, rfl, hvi, hSt1⟩ := hSt.cons
  obtain ⟨xa, st2, rfl, hva, hSt2⟩ := hSt1.cons
  rw [sx_p1_cons, sx_p1_cons] at hr
  obtain ⟨hY, hG, hS, hxs, hrm⟩ := id hrest
  cases hc : sx_and (Nat.beq (sx_tg u) 2) (Nat.blt (sx_pl u) n) with
  | true =>
    rw [hc, sx_if_t] at hr
    obtain ⟨c1, -⟩ := sx_and_ok hc
    obtain ⟨x, sy', outs', rfl, hr, hsub, hY', -⟩ := sx_ix_ok hr hY hvi
    simp only [sx_rdK_eq, sx_fo_eq] at hr
    obtain ⟨hk2, hr⟩ := sx_if_ok hr
    obtain ⟨k1, k2⟩ := sx_and_ok hk2
    have k1 : (sx_rd h (u / 8)).1 % 256 = 102 := sx_beq k1
    have k2 : x < (sx_rd h (u / 8)).1 / 256 := sx_blt k2
    obtain ⟨a, ha, rfl⟩ := hva.t2 (sx_beq c1)
    obtain ⟨ws, e, hP, hD, g3, g4, g5, g6, he, hE⟩ := hG.at ha
    have hr : sx_if (Nat.beq (sx_get (sx_rd h (u / 8)).2 x) 0) none (ih d mi (sx_mt mi).1 lst false (Nat.succ pc) L (sx_get (sx_rd h (u / 8)).2 x :: r2) h n sy' cs ss) = some outs' := hr
    cases hz : Nat.beq (sx_get (sx_rd h (u / 8)).2 x) 0 with
    | true => rw [hz] at hr; cases hr
    | false =>
    rw [hz, sx_if_f] at hr
    rcases hE with ⟨ci, fs, -, e2, ⟨C, e3, -⟩, -⟩ | ⟨cA, f, -, e2, -⟩ | ⟨cA, f, -, e2, -⟩ | ⟨cA, f, rfl, e2, e3, e4⟩
    · have := (List.getElem?_eq_some_iff.mp e3).1; rw [sx_fl_len.2] at this; omega
    · omega
    · omega
    · obtain ⟨i1, i2⟩ := sx_in_ok k2 e3.2
      obtain ⟨qa, q1, q2, q3⟩ := (e4 x k2).resolve_left (fun h => sx_beq_f hz h.1)
      have v : sx_V b ad rs (sx_get (sx_rd h (u / 8)).2 x) (va_rf (f (Int32.ofNat x).toNatClampNeg)) := by
        rw [i2, q1]
        exact Or.inr (Or.inr (Or.inl ⟨q2, qa, q3, rfl⟩))
      exact va_aldq hx hb (sx_KA hT e3.1) hP (u / 8) 0 he rfl i1 (sx_dc_ok hk) (sx_go IH hr hC ⟨hLc, ⟨v, hSt2⟩, hY', hG, hS, hxs, hrm⟩ hL List.prefix_rfl List.prefix_rfl hsub hQ)
  | false =>
    rw [hc, sx_if_f] at hr
    obtain ⟨h5, hr⟩ := sx_if_ok hr
    obtain ⟨-, h5⟩ := sx_and_ok h5
    cases h5
theorem sx_sIast (IH : sx_Ok N ih) (hC : sx_Cx p e R s m meth c D K b N xs A mi d q) (hA : sx_At R s c D K b N xs A ad rs cells slots locs L S h n sy cs ss ls st H) (hL : sx_Ls p l e R s m args below meth c D K b N xs A Q ad rs lst) (hQ : ∀ o ∈ outs, ∀ t, sx_En R s below D K b A ad rs o t → Q t)
    (hk : sx_dc q pc .iastore 1 = true) (hr : sx_oAst ih d mi (sx_mt mi).1 lst pc L S h n sy cs ss 100 = some outs) : W p l e R s m args below meth c H locs cells slots Q (F0 m pc ls st) := by
  obtain ⟨-, hx, -, hb, hml, -, -, -, hown, -, hT, -⟩ := id hC
  obtain ⟨hLc, hSt, hrest⟩ := id hA
  unfold sx_oAst at hr
  cases S with
  | nil => cases hr
  | cons v r =>
  cases r with
  | nil => cases hr
  | cons u r2 =>
  cases r2 with
  | nil => cases hr
  | cons t r3 =>
  obtain ⟨xv, st0, rfl, hvv, hSt0⟩ := hSt.cons
  obtain ⟨xi, st1, rfl, hvi, hSt1⟩ := hSt0.cons
  obtain ⟨xa, st2, rfl, hva, hSt2⟩ := hSt1.cons
  rw [sx_p1_cons, sx_p1_cons, sx_p1_cons] at hr
  obtain ⟨hY, hG, hS, hxs, hrm⟩ := id hrest
  obtain ⟨hc, hr⟩ := sx_if_ok hr
  obtain ⟨c1, -⟩ := sx_and_ok hc
  obtain ⟨x, sy', outs', rfl, hr, hsub, hY', -⟩ := sx_ix_ok hr hY hvi
  simp only [sx_rdK_eq, sx_fo_eq, sx_wrK_eq] at hr
  obtain ⟨hk2, hr⟩ := sx_if_ok hr
  obtain ⟨k1, k2⟩ := sx_and_ok hk2
  have k1 : (sx_rd h (t / 8)).1 % 256 = 100 := sx_beq k1
  have k2 : x < (sx_rd h (t / 8)).1 / 256 := sx_blt k2
  obtain ⟨hty, hr⟩ := sx_if_ok hr
  obtain ⟨h72, hr⟩ := sx_if_ok hr
  have h72 : v < 2 ^ 72 := sx_blt h72
  obtain ⟨a, ha, rfl⟩ := hva.t2 (sx_beq c1)
  obtain ⟨ws, e, hP, hD, g3, g4, g5, g6, he, hE⟩ := hG.at ha
  have hE0 := hE
  have hty : Nat.ble (sx_tg v) 1 = true := hty
  obtain ⟨z, rfl⟩ := hvv.i (sx_ble hty)
  have hr : ih d mi (sx_mt mi).1 lst false (Nat.succ pc) L r3 (sx_wr h (t / 8) ((sx_rd h (t / 8)).1, sx_set (sx_rd h (t / 8)).2 x v)) n sy' cs ss = some outs' := hr
  rcases hE with ⟨ci, fs, -, e2, ⟨C, e3, -⟩, -⟩ | ⟨cA, f, rfl, e2, e3, e4⟩ | ⟨cA, f, -, e2, -⟩ | ⟨cA, f, -, e2, -⟩
  · have := (List.getElem?_eq_some_iff.mp e3).1; rw [sx_fl_len.2] at this; omega
  · obtain ⟨i1, i2⟩ := sx_in_ok k2 e3.2
    refine va_iast hx hb (sx_KA hT e3.1) hP hD hS (t / 8) 0 he rfl i1 (sx_dc_ok hk) (fun H1 locs1 hP1 hD1 hS1 => ?_)
    rw [i2] at hP1 hD1
    exact sx_go IH hr hC ⟨hLc, hSt2, hY', sx_G.set g3 g4 g5 g6 he hP1 hD1 (sx_E.iput hE0 hvv h72), hS1, hxs, hrm⟩ hL List.prefix_rfl List.prefix_rfl hsub hQ
  · omega
  · omega
theorem sx_sLast (IH : sx_Ok N ih) (hC : sx_Cx p e R s m meth c D K b N xs A mi d q) (hA : sx_At R s c D K b N xs A ad rs cells slots locs L S h n sy cs ss ls st H) (hL : sx_Ls p l e R s m args below meth c D K b N xs A Q ad rs lst) (hQ : ∀ o ∈ outs, ∀ t, sx_En R s below D K b A ad rs o t → Q t)
    (hk : sx_dc q pc .lastore 1 = true) (hr : sx_oAst ih d mi (sx_mt mi).1 lst pc L S h n sy cs ss 101 = some outs) : W p l e R s m args below meth c H locs cells slots Q (F0 m pc ls st) := by
  obtain ⟨-, hx, -, hb, hml, -, -, -, hown, -, hT, -⟩ := id hC
  obtain ⟨hLc, hSt, hrest⟩ := id hA
  unfold sx_oAst at hr
  cases S with
  | nil => cases hr
  | cons v r =>
  cases r with
  | nil => cases hr
  | cons u r2 =>
  cases r2 with
  | nil => cases hr
  | cons t r3 =>
  obtain ⟨xv, st0, rfl, hvv, hSt0⟩ := hSt.cons
  obtain ⟨xi, st1, rfl, hvi, hSt1⟩ := hSt0.cons
  obtain ⟨xa, st2, rfl, hva, hSt2⟩ := hSt1.cons
  rw [sx_p1_cons, sx_p1_cons, sx_p1_cons] at hr
  obtain ⟨hY, hG, hS, hxs, hrm⟩ := id hrest
  obtain ⟨hc, hr⟩ := sx_if_ok hr
  obtain ⟨c1, -⟩ := sx_and_ok hc
  obtain ⟨x, sy', outs', rfl, hr, hsub, hY', -⟩ := sx_ix_ok hr hY hvi
  simp only [sx_rdK_eq, sx_fo_eq, sx_wrK_eq] at hr
  obtain ⟨hk2, hr⟩ := sx_if_ok hr
  obtain ⟨k1, k2⟩ := sx_and_ok hk2
  have k1 : (sx_rd h (t / 8)).1 % 256 = 101 := sx_beq k1
  have k2 : x < (sx_rd h (t / 8)).1 / 256 := sx_blt k2
  obtain ⟨hty, hr⟩ := sx_if_ok hr
  obtain ⟨h72, hr⟩ := sx_if_ok hr
  have h72 : v < 2 ^ 72 := sx_blt h72
  obtain ⟨a, ha, rfl⟩ := hva.t2 (sx_beq c1)
  obtain ⟨ws, e, hP, hD, g3, g4, g5, g6, he, hE⟩ := hG.at ha
  have hE0 := hE
  have hty : Nat.beq (sx_tg v) 4 = true := hty
  have ev := hvv.t4 (sx_beq hty)
  subst ev
  have hr : ih d mi (sx_mt mi).1 lst false (Nat.succ pc) L r3 (sx_wr h (t / 8) ((sx_rd h (t / 8)).1, sx_set (sx_rd h (t / 8)).2 x (v - 4))) n sy' cs ss = some outs' := hr
  rcases hE with ⟨ci, fs, -, e2, ⟨C, e3, -⟩, -⟩ | ⟨cA, f, -, e2, -⟩ | ⟨cA, f, rfl, e2, e3, e4⟩ | ⟨cA, f, -, e2, -⟩
  · have := (List.getElem?_eq_some_iff.mp e3).1; rw [sx_fl_len.2] at this; omega
  · omega
  · obtain ⟨i1, i2⟩ := sx_in_ok k2 e3.2
    refine va_last hx hb (sx_KA hT e3.1) hP hD hS (t / 8) 0 he rfl i1 (sx_dc_ok hk) (fun H1 locs1 hP1 hD1 hS1 => ?_)
    rw [i2] at hP1 hD1
    exact sx_go IH hr hC ⟨hLc, hSt2, hY', sx_G.set g3 g4 g5 g6 he hP1 hD1 (sx_E.lput hE0 (sx_beq hty) h72), hS1, hxs, hrm⟩ hL List.prefix_rfl List.prefix_rfl hsub hQ
  · omega
theorem sx_sAast (IH : sx_Ok N ih) (hC : sx_Cx p e R s m meth c D K b N xs A mi d q) (hA : sx_At R s c D K b N xs A ad rs cells slots locs L S h n sy cs ss ls st H) (hL : sx_Ls p l e R s m args below meth c D K b N xs A Q ad rs lst) (hQ : ∀ o ∈ outs, ∀ t, sx_En R s below D K b A ad rs o t → Q t)
    (hk : sx_dc q pc .aastore 1 = true) (hr : sx_oAst ih d mi (sx_mt mi).1 lst pc L S h n sy cs ss 102 = some outs) : W p l e R s m args below meth c H locs cells slots Q (F0 m pc ls st) := by
  obtain ⟨-, hx, -, hb, hml, -, -, -, hown, -, hT, -⟩ := id hC
  obtain ⟨hLc, hSt, hrest⟩ := id hA
  unfold sx_oAst at hr
  cases S with
  | nil => cases hr
  | cons v r =>
  cases r with
  | nil => cases hr
  | cons u r2 =>
  cases r2 with
  | nil => cases hr
  | cons t r3 =>
  obtain ⟨xv, st0, rfl, hvv, hSt0⟩ := hSt.cons
  obtain ⟨xi, st1, rfl, hvi, hSt1⟩ := hSt0.cons
  obtain ⟨xa, st2, rfl, hva, hSt2⟩ := hSt1.cons
  rw [sx_p1_cons, sx_p1_cons, sx_p1_cons] at hr
  obtain ⟨hY, hG, hS, hxs, hrm⟩ := id hrest
  obtain ⟨hc, hr⟩ := sx_if_ok hr
  obtain ⟨c1, -⟩ := sx_and_ok hc
  obtain ⟨x, sy', outs', rfl, hr, hsub, hY', -⟩ := sx_ix_ok hr hY hvi
  simp only [sx_rdK_eq, sx_fo_eq, sx_wrK_eq] at hr
  obtain ⟨hk2, hr⟩ := sx_if_ok hr
  obtain ⟨k1, k2⟩ := sx_and_ok hk2
  have k1 : (sx_rd h (t / 8)).1 % 256 = 102 := sx_beq k1
  have k2 : x < (sx_rd h (t / 8)).1 / 256 := sx_blt k2
  obtain ⟨hty, hr⟩ := sx_if_ok hr
  obtain ⟨h72, hr⟩ := sx_if_ok hr
  have h72 : v < 2 ^ 72 := sx_blt h72
  obtain ⟨a, ha, rfl⟩ := hva.t2 (sx_beq c1)
  obtain ⟨ws, e, hP, hD, g3, g4, g5, g6, he, hE⟩ := hG.at ha
  have hE0 := hE
  have hty : sx_and (Nat.beq (sx_tg v) 2) (sx_and (Nat.blt (sx_pl v) n) (Nat.beq (Nat.mod (sx_rd h (sx_pl v)).1 256) sx_tab)) = true := hty
  obtain ⟨t1, hty⟩ := sx_and_ok hty
  obtain ⟨-, t2⟩ := sx_and_ok hty
  have t2 : (sx_rd h (v / 8)).1 % 256 = 3 := sx_beq t2
  obtain ⟨av, hav, rfl⟩ := hvv.t2 (sx_beq t1)
  obtain ⟨ev, hev, hEv⟩ : ∃ ev, ws[v / 8]? = some (av, ev) ∧ sx_E K b ad rs (sx_rd h (v / 8)) ev := by
    rw [← g3, List.getElem?_map] at hav
    cases hw : ws[v / 8]? with
    | none => rw [hw] at hav; cases hav
    | some qq =>
      rw [hw] at hav
      obtain ⟨qa, qe⟩ := qq
      have : qa = av := by simpa using hav
      subst this
      exact ⟨qe, rfl, g6 _ _ hw⟩
  have hr : ih d mi (sx_mt mi).1 lst false (Nat.succ pc) L r3 (sx_wr h (t / 8) ((sx_rd h (t / 8)).1, sx_set (sx_rd h (t / 8)).2 x v)) n sy' cs ss = some outs' := hr
  rcases hE with ⟨ci, fs, -, e2, ⟨C, e3, -⟩, -⟩ | ⟨cA, f, -, e2, -⟩ | ⟨cA, f, -, e2, -⟩ | ⟨cA, f, rfl, e2, e3, e4⟩
  · have := (List.getElem?_eq_some_iff.mp e3).1; rw [sx_fl_len.2] at this; omega
  · omega
  · omega
  · obtain ⟨i1, i2⟩ := sx_in_ok k2 e3.2
    rcases hEv with ⟨ci, fs, rfl, u2, -⟩ | ⟨cA, f, -, u2, -⟩ | ⟨cA, f, -, u2, -⟩ | ⟨cA, f, -, u2, -⟩
    · rw [t2] at u2
      subst u2
      refine va_astq hx hb (sx_KA hT e3.1) hP hD hS (t / 8) 0 (v / 8) 3 (r := ("AbsentRings$Table", sx_T3, 11)) he rfl hev rfl i1 (sx_dc_ok hk) (fun H1 locs1 hP1 hD1 hS1 => ?_)
      rw [i2] at hP1 hD1
      exact sx_go IH hr hC ⟨hLc, hSt2, hY', sx_G.set g3 g4 g5 g6 he hP1 hD1 (sx_E.qput hE0 (sx_beq t1) hav h72), hS1, hxs, hrm⟩ hL List.prefix_rfl List.prefix_rfl hsub hQ
    · omega
    · omega
    · omega
end SXArr
end
section
/-! sx: cells are made -/
section SXNew
variable {N : Nat} {ih : sx_ih} {w d mi pc n cs ss : Nat} {lst : List sx_I} {L S : List Nat} {h : sx_H} {sy : sx_Y} {outs : List sx_O}
variable {p : Program} {l : Launch} {e : Env} {R : Room} {s : State} {m : MethodId} {args : Array Value} {below : List Frame} {meth : Method} {c : Code} {D : va_G} {K : ClassId → FieldType → Prop} {b : Nat → Nat} {xs : Nat → Int32} {A : Nat → Prop} {q : sx_M}
variable {ad : List Nat} {rs : List Int32} {ls : Array Slot} {st : List Value} {H : Heap} {locs : List Loc} {cells slots : Nat} {Q : State → Prop}
theorem sx_sAlen (IH : sx_Ok N ih) (hC : sx_Cx p e R s m meth c D K b N xs A mi d q) (hA : sx_At R s c D K b N xs A ad rs cells slots locs L S h n sy cs ss ls st H) (hL : sx_Ls p l e R s m args below meth c D K b N xs A Q ad rs lst) (hQ : ∀ o ∈ outs, ∀ t, sx_En R s below D K b A ad rs o t → Q t)
    (hN31 : N < 2 ^ 31) (hk : sx_dc q pc .arraylength 1 = true) (hr : sx_oAlen ih N d mi (sx_mt mi).1 lst pc L S h n sy cs ss = some outs) : W p l e R s m args below meth c H locs cells slots Q (F0 m pc ls st) := by
  obtain ⟨-, hx, -, hb, hml, -, -, -, hown, -, hT, -⟩ := id hC
  obtain ⟨hLc, hSt, hrest⟩ := id hA
  unfold sx_oAlen at hr
  cases S with
  | nil => cases hr
  | cons v r =>
  obtain ⟨x, st', rfl, hv, hSt'⟩ := hSt.cons
  rw [sx_p1_cons] at hr
  obtain ⟨hY, hG, hS, hxs, hrm⟩ := id hrest
  have vI : ∀ k : Nat, sx_V b ad rs (Nat.mul 8 k) (.int (Int32.ofNat k)) := fun k => Or.inl ⟨Nat.mul_mod_right 8 _, by rw [show Nat.mul 8 k / 8 = k from Nat.mul_div_cancel_left _ (by decide)]⟩
  cases h5 : Nat.beq v 5 with
  | true =>
    rw [h5, sx_if_t, sx_fo_eq] at hr
    have e5 : v = 5 := sx_beq h5
    have e := hv.t5 (by rw [e5])
    rw [show b (v / 8) = b 0 by rw [e5]] at e
    subst e
    obtain ⟨-, -, -, -, -, -, -, -, -, -, -, -, hX, hbl, hbA, -⟩ := id hC
    exact va_slen hx hb hX hbl hbA hS (sx_dc_ok hk) (sx_go IH hr hC ⟨hLc, ⟨vI N, hSt'⟩, hrest⟩ hL List.prefix_rfl List.prefix_rfl (fun _ h => h) hQ)
  | false =>
    rw [h5, sx_if_f] at hr
    obtain ⟨hc, hr⟩ := sx_if_ok hr
    obtain ⟨c1, -⟩ := sx_and_ok hc
    simp only [sx_rdK_eq, sx_fo_eq] at hr
    obtain ⟨k1, hr⟩ := sx_if_ok hr
    have k1 : 100 ≤ (sx_rd h (v / 8)).1 % 256 := sx_ble k1
    obtain ⟨a, ha, rfl⟩ := hv.t2 (sx_beq c1)
    obtain ⟨ws, ee, hP, hD, g3, g4, g5, g6, he, hE⟩ := hG.at ha
    have go : W p l e R s m args below meth c H locs cells slots Q (F0 m (pc + 1) ls (.int (Int32.ofNat ((sx_rd h (v / 8)).1 / 256)) :: st')) := sx_go IH hr hC ⟨hLc, ⟨vI _, hSt'⟩, hrest⟩ hL List.prefix_rfl List.prefix_rfl (fun _ h => h) hQ
    rcases hE with ⟨ci, fs, -, e2, ⟨C, e3, -⟩, -⟩ | ⟨cA, f, rfl, e2, e3, e4⟩ | ⟨cA, f, rfl, e2, e3, e4⟩ | ⟨cA, f, rfl, e2, e3, e4⟩
    · have := (List.getElem?_eq_some_iff.mp e3).1; rw [sx_fl_len.2] at this; omega
    · exact va_alen hx hb (sx_KA hT e3.1) hP (v / 8) 0 he rfl rfl (sx_dc_ok hk) go
    · exact va_alen hx hb (sx_KA hT e3.1) hP (v / 8) 0 he rfl rfl (sx_dc_ok hk) go
    · exact va_alen hx hb (sx_KA hT e3.1) hP (v / 8) 0 he rfl rfl (sx_dc_ok hk) go
theorem sx_mk_ok {hd ct len ln : Nat} (hr : sx_mk ih d mi (sx_mt mi).1 lst pc L h n sy cs ss hd ct len ln S = some outs) : n < 256 ∧ cs < 600002 ∧ ss + len ≤ 7302232 ∧ ih d mi (sx_mt mi).1 lst false (Nat.add pc ln) L (Nat.add (Nat.mul 8 n) 2 :: S) (sx_wr h n (hd, ct)) (n + 1) sy (cs + 1) (ss + len) = some outs := by
  unfold sx_mk at hr
  obtain ⟨hc, hr⟩ := sx_if_ok hr
  obtain ⟨c1, hc⟩ := sx_and_ok hc
  obtain ⟨c2, c3⟩ := sx_and_ok hc
  simp only [sx_fo_eq, sx_wrK_eq] at hr
  exact ⟨sx_blt c1, sx_blt c2, sx_ble c3, hr⟩
theorem sx_new_V {a : Nat} (h4 : ad.length = n) : sx_V b (ad ++ [a]) rs (Nat.add (Nat.mul 8 n) 2) (.ref a) := by
  have e : Nat.add (Nat.mul 8 n) 2 = 8 * n + 2 := rfl
  rw [e]
  refine Or.inr (Or.inr (Or.inl ⟨by omega, a, ?_, rfl⟩))
  rw [show (8 * n + 2) / 8 = ad.length by omega, List.getElem?_append_right (Nat.le_refl _), Nat.sub_self]
  rfl
theorem sx_sNew (IH : sx_Ok N ih) (hC : sx_Cx p e R s m meth c D K b N xs A mi d q) (hA : sx_At R s c D K b N xs A ad rs cells slots locs L S h n sy cs ss ls st H) (hL : sx_Ls p l e R s m args below meth c D K b N xs A Q ad rs lst) (hQ : ∀ o ∈ outs, ∀ t, sx_En R s below D K b A ad rs o t → Q t)
    (hk : sx_k18 q pc w = true) (hr : sx_oNew ih w d mi (sx_mt mi).1 lst pc L S h n sy cs ss = some outs) : W p l e R s m args below meth c H locs cells slots Q (F0 m pc ls st) := by
  obtain ⟨-, hx, -, hb, hml, -, -, -, hown, -, hT, -⟩ := id hC
  obtain ⟨hLc, hSt, hrest⟩ := id hA
  unfold sx_oNew at hr
  obtain ⟨t2, ht2, hr⟩ := sx_opt_ok hr
  rw [sx_nth_eq] at ht2
  obtain ⟨n1, n2, n3, hr⟩ := sx_mk_ok hr
  unfold sx_k18 at hk
  obtain ⟨t, ht, hk⟩ := sx_oa_ok hk
  simp only [Bool.and_eq_true, decide_eq_true_eq] at hk
  obtain ⟨hcls, hd, hk, hb12⟩ := hk
  obtain ⟨C, hC1, hk⟩ := sx_oa_ok hk
  have hCn : C.1 = t.2.2 := of_decide_eq_true hk
  have hrD := List.all_eq_true.mp sx_rD_ok (sx_wb w) (List.mem_range.mpr hb12)
  unfold sx_rD at hrD
  obtain ⟨C', hC1', hrD⟩ := sx_oa_ok hrD
  cases hC1.symm.trans hC1'
  obtain ⟨t2', ht2', hrD⟩ := sx_oa_ok hrD
  cases ht2.symm.trans ht2'
  simp only [Bool.and_eq_true, decide_eq_true_eq] at hrD
  obtain ⟨d1, d2, d3⟩ := hrD
  have hin := sx_cls_in hC1
  obtain ⟨C0, C1, C2⟩ := C
  dsimp only at hin d1 d3 hCn
  obtain ⟨hY, hG, hS, hxs, hr1, hr2, hr3⟩ := id hrest
  obtain ⟨ws, hP, hD, g3, g4, g5, g6⟩ := hG
  have hAl := (id hC).2.2.2.2.2.2.2.2.2.2.2.2.2.2.2.1
  have hdiv : Nat.div t2.1 256 = C2 := by rw [d1]; show (sx_wb w + 256 * C2) / 256 = C2; omega
  rw [hdiv] at n3 hr
  refine va_new (ci := sx_wb w) (C := C0) (T := C1) (N := C2) (fs := (List.range C2).map (fun j => defaultValue (sx_fty (C1 j).2.2.1))) hx hb (hT.1 args) hin.1 (fun k => sx_fty (C1 k).2.2.1) hin.2.1 hown (index := t.2.1) (by rw [hCn, ← hcls]; exact hT.1 args _ (sx_cl_in ht)) (hT.1 args _ hin.2.2.1) (hT.1 args _ hin.2.2.2.1) hT.2.2.2.2.2.1 hP hD hS hAl hC1 (fun j hj => ?_) (by omega) (by omega) (sx_dc_ok hd) (fun qa H1 hP1 hD1 hS1 => ?_)
  · unfold vp_V
    rw [List.getD_eq_getElem?_getD, List.getElem?_map, List.getElem?_range hj]
    rfl
  · refine sx_go IH hr hC ⟨hLc.mono (List.prefix_append _ _) List.prefix_rfl, ⟨sx_new_V g4, hSt.mono (List.prefix_append _ _) List.prefix_rfl⟩, hY, sx_G.push g3 g4 n1 g6 hP1 hD1 ?_, hS1, hxs, by omega, by omega, hr3⟩ hL (List.prefix_append _ _) List.prefix_rfl (fun _ h => h) hQ
    refine Or.inl ⟨sx_wb w, _, rfl, by rw [d1]; show (sx_wb w + 256 * C2) % 256 = sx_wb w; omega, ⟨_, hC1, by simp⟩, by rw [List.length_map, List.length_range]; exact hdiv.symm, fun j u hu => ?_⟩
    rw [List.getElem?_map] at hu
    have hj : j < C2 := by
      rcases Nat.lt_or_ge j C2 with z | z
      · exact z
      · rw [List.getElem?_eq_none (by rw [List.length_range]; exact z)] at hu; cases hu
    rw [List.getElem?_range hj] at hu
    cases hu
    have h3 := List.all_eq_true.mp d3 j (List.mem_range.mpr hj)
    dsimp only at h3 ⊢
    split at h3
    · rename_i z hz
      simp only [Bool.and_eq_true, decide_eq_true_eq] at h3
      rw [hz, h3.1, h3.2]
      exact Or.inl ⟨rfl, rfl⟩
    · rename_i hz
      rw [hz, of_decide_eq_true h3]
      exact Or.inr (Or.inr (Or.inr (Or.inl ⟨rfl, rfl⟩)))
    · cases h3
theorem sx_acI : Cond.arrayClass .int ∈ sx_wl := sx_isW_ok (by decide +kernel)
theorem sx_acL : Cond.arrayClass .long ∈ sx_wl := sx_isW_ok (by decide +kernel)
theorem sx_sNewI (IH : sx_Ok N ih) (hC : sx_Cx p e R s m meth c D K b N xs A mi d q) (hA : sx_At R s c D K b N xs A ad rs cells slots locs L S h n sy cs ss ls st H) (hL : sx_Ls p l e R s m args below meth c D K b N xs A Q ad rs lst) (hQ : ∀ o ∈ outs, ∀ t, sx_En R s below D K b A ad rs o t → Q t)
    (hk : sx_dc q pc (.newarray .int) 2 = true) (hr : sx_oNewa ih d mi (sx_mt mi).1 lst pc L S h n sy cs ss 100 2 = some outs) : W p l e R s m args below meth c H locs cells slots Q (F0 m pc ls st) := by
  obtain ⟨-, hx, -, hb, hml, -, -, -, hown, -, hT, -⟩ := id hC
  obtain ⟨hLc, hSt, hrest⟩ := id hA
  unfold sx_oNewa at hr
  cases S with
  | nil => cases hr
  | cons v r =>
  obtain ⟨x0, st', rfl, hv, hSt'⟩ := hSt.cons
  rw [sx_p1_cons] at hr
  obtain ⟨hY, hG, hS, hxs, hr1, hr2, hr3⟩ := id hrest
  obtain ⟨x, sy', outs', rfl, hr, hsub, hY', -⟩ := sx_ix_ok hr hY hv
  obtain ⟨k5, hr⟩ := sx_if_ok hr
  have k5 : x ≤ 5000 := sx_ble k5
  rw [sx_fo_eq] at hr
  obtain ⟨n1, n2, n3, hr⟩ := sx_mk_ok hr
  obtain ⟨ws, hP, hD, g3, g4, g5, g6⟩ := hG
  have hAl := (id hC).2.2.2.2.2.2.2.2.2.2.2.2.2.2.2.1
  have hz : ¬ Int32.ofNat x < 0 := nI_pos (n := x) (by omega)
  have hcl : (Int32.ofNat x).toNatClampNeg = x := nI_clamp (n := x) (by omega)
  have hg0 : ∀ j : Nat, sx_get 0 j = 0 := fun j => by rw [sx_get_eq]; simp
  have hdv : Nat.add 100 (Nat.mul 256 x) / 256 = x := by show (100 + 256 * x) / 256 = x; omega
  have hmd : Nat.add 100 (Nat.mul 256 x) % 256 = 100 := by show (100 + 256 * x) % 256 = 100; omega
  refine va_newa (atype := .int) (a0 := (x, .inl (fun _ => 0))) (ty := .int) hx hb (hT.1 args _ sx_acI) rfl hT.2.2.2.2.2.1 hP hD hS hAl (fun cA => rfl) hz hcl (by show x * 4 ≤ 536870912; omega) (by omega) (by omega) (sx_dc_ok hk) (fun qa cA H1 hK1 hP1 hD1 hS1 => ?_)
  refine sx_go IH hr hC ⟨hLc.mono (List.prefix_append _ _) List.prefix_rfl, ⟨sx_new_V g4, hSt'.mono (List.prefix_append _ _) List.prefix_rfl⟩, hY', sx_G.push g3 g4 n1 g6 hP1 hD1 ?_, hS1, hxs, by omega, by omega, hr3⟩ hL (List.prefix_append _ _) List.prefix_rfl hsub hQ
  have hKc : K cA .int := (hT.2.2.2.2.2.2 cA .int).mpr (hK1.2 0 (cA, .int) rfl)
  exact Or.inr (Or.inl ⟨cA, fun _ => 0, by rw [hdv], hmd, ⟨hKc, by rw [hdv]; exact k5⟩, fun j _ => by show sx_V b _ rs (sx_get 0 j) _; rw [hg0]; exact Or.inl ⟨rfl, rfl⟩⟩)
theorem sx_sNewL (IH : sx_Ok N ih) (hC : sx_Cx p e R s m meth c D K b N xs A mi d q) (hA : sx_At R s c D K b N xs A ad rs cells slots locs L S h n sy cs ss ls st H) (hL : sx_Ls p l e R s m args below meth c D K b N xs A Q ad rs lst) (hQ : ∀ o ∈ outs, ∀ t, sx_En R s below D K b A ad rs o t → Q t)
    (hk : sx_dc q pc (.newarray .long) 2 = true) (hr : sx_oNewa ih d mi (sx_mt mi).1 lst pc L S h n sy cs ss 101 2 = some outs) : W p l e R s m args below meth c H locs cells slots Q (F0 m pc ls st) := by
  obtain ⟨-, hx, -, hb, hml, -, -, -, hown, -, hT, -⟩ := id hC
  obtain ⟨hLc, hSt, hrest⟩ := id hA
  unfold sx_oNewa at hr
  cases S with
  | nil => cases hr
  | cons v r =>
  obtain ⟨x0, st', rfl, hv, hSt'⟩ := hSt.cons
  rw [sx_p1_cons] at hr
  obtain ⟨hY, hG, hS, hxs, hr1, hr2, hr3⟩ := id hrest
  obtain ⟨x, sy', outs', rfl, hr, hsub, hY', -⟩ := sx_ix_ok hr hY hv
  obtain ⟨k5, hr⟩ := sx_if_ok hr
  have k5 : x ≤ 5000 := sx_ble k5
  rw [sx_fo_eq] at hr
  obtain ⟨n1, n2, n3, hr⟩ := sx_mk_ok hr
  obtain ⟨ws, hP, hD, g3, g4, g5, g6⟩ := hG
  have hAl := (id hC).2.2.2.2.2.2.2.2.2.2.2.2.2.2.2.1
  have hz : ¬ Int32.ofNat x < 0 := nI_pos (n := x) (by omega)
  have hcl : (Int32.ofNat x).toNatClampNeg = x := nI_clamp (n := x) (by omega)
  have hg0 : ∀ j : Nat, sx_get 0 j = 0 := fun j => by rw [sx_get_eq]; simp
  have hdv : Nat.add 101 (Nat.mul 256 x) / 256 = x := by show (101 + 256 * x) / 256 = x; omega
  have hmd : Nat.add 101 (Nat.mul 256 x) % 256 = 101 := by show (101 + 256 * x) % 256 = 101; omega
  refine va_newa (atype := .long) (a0 := (x, .inr (.inl (fun _ => 0)))) (ty := .long) hx hb (hT.1 args _ sx_acL) rfl hT.2.2.2.2.2.1 hP hD hS hAl (fun cA => rfl) hz hcl (by show x * 8 ≤ 536870912; omega) (by omega) (by omega) (sx_dc_ok hk) (fun qa cA H1 hK1 hP1 hD1 hS1 => ?_)
  refine sx_go IH hr hC ⟨hLc.mono (List.prefix_append _ _) List.prefix_rfl, ⟨sx_new_V g4, hSt'.mono (List.prefix_append _ _) List.prefix_rfl⟩, hY', sx_G.push g3 g4 n1 g6 hP1 hD1 ?_, hS1, hxs, by omega, by omega, hr3⟩ hL (List.prefix_append _ _) List.prefix_rfl hsub hQ
  have hKc : K cA .long := (hT.2.2.2.2.2.2 cA .long).mpr (hK1.2 0 (cA, .long) rfl)
  exact Or.inr (Or.inr (Or.inl ⟨cA, fun _ => 0, by rw [hdv], hmd, ⟨hKc, by rw [hdv]; exact k5⟩, fun j _ => by show sx_get 0 j % 8 = 0 ∧ (0 : Int64) = Int64.ofNat (sx_get 0 j / 8); rw [hg0]; exact ⟨rfl, rfl⟩⟩))
theorem sx_sNewQ (IH : sx_Ok N ih) (hC : sx_Cx p e R s m meth c D K b N xs A mi d q) (hA : sx_At R s c D K b N xs A ad rs cells slots locs L S h n sy cs ss ls st H) (hL : sx_Ls p l e R s m args below meth c D K b N xs A Q ad rs lst) (hQ : ∀ o ∈ outs, ∀ t, sx_En R s below D K b A ad rs o t → Q t)
    (hk : sx_k20 q pc w = true) (hr : sx_oNewa ih d mi (sx_mt mi).1 lst pc L S h n sy cs ss 102 3 = some outs) : W p l e R s m args below meth c H locs cells slots Q (F0 m pc ls st) := by
  obtain ⟨-, hx, -, hb, hml, -, -, -, hown, -, hT, -⟩ := id hC
  obtain ⟨hLc, hSt, hrest⟩ := id hA
  unfold sx_oNewa at hr
  cases S with
  | nil => cases hr
  | cons v r =>
  obtain ⟨x0, st', rfl, hv, hSt'⟩ := hSt.cons
  rw [sx_p1_cons] at hr
  obtain ⟨hY, hG, hS, hxs, hr1, hr2, hr3⟩ := id hrest
  obtain ⟨x, sy', outs', rfl, hr, hsub, hY', -⟩ := sx_ix_ok hr hY hv
  obtain ⟨k5, hr⟩ := sx_if_ok hr
  have k5 : x ≤ 5000 := sx_ble k5
  rw [sx_fo_eq] at hr
  obtain ⟨n1, n2, n3, hr⟩ := sx_mk_ok hr
  obtain ⟨ws, hP, hD, g3, g4, g5, g6⟩ := hG
  have hAl := (id hC).2.2.2.2.2.2.2.2.2.2.2.2.2.2.2.1
  have hz : ¬ Int32.ofNat x < 0 := nI_pos (n := x) (by omega)
  have hcl : (Int32.ofNat x).toNatClampNeg = x := nI_clamp (n := x) (by omega)
  have hg0 : ∀ j : Nat, sx_get 0 j = 0 := fun j => by rw [sx_get_eq]; simp
  have hdv : Nat.add 102 (Nat.mul 256 x) / 256 = x := by show (102 + 256 * x) / 256 = x; omega
  have hmd : Nat.add 102 (Nat.mul 256 x) % 256 = 102 := by show (102 + 256 * x) % 256 = 102; omega
  unfold sx_k20 at hk
  obtain ⟨t, ht, hk⟩ := sx_oa_ok hk
  simp only [Bool.and_eq_true, decide_eq_true_eq] at hk
  obtain ⟨hcls, hd, hC3⟩ := hk
  refine va_newq (C := "AbsentRings$Table") hx hb hown (index := t.2.1) (by rw [← hC3, ← hcls]; exact hT.1 args _ (sx_cl_in ht)) hT.2.2.2.2.1 hT.2.2.2.2.2.1 hP hD hS hAl hz hcl (by omega) (by omega) (by omega) (sx_dc_ok hd) (fun qa cA H1 hK1 hP1 hD1 hS1 => ?_)
  refine sx_go IH hr hC ⟨hLc.mono (List.prefix_append _ _) List.prefix_rfl, ⟨sx_new_V g4, hSt'.mono (List.prefix_append _ _) List.prefix_rfl⟩, hY', sx_G.push g3 g4 n1 g6 hP1 hD1 ?_, hS1, hxs, by omega, by omega, hr3⟩ hL (List.prefix_append _ _) List.prefix_rfl hsub hQ
  have hKc : K cA (.object "AbsentRings$Table") := (hT.2.2.2.2.2.2 cA _).mpr (hK1.2 0 (cA, .object "AbsentRings$Table") rfl)
  exact Or.inr (Or.inr (Or.inr ⟨cA, fun _ => none, by rw [hdv], hmd, ⟨hKc, by rw [hdv]; exact k5⟩, fun j _ => Or.inl ⟨hg0 j, rfl⟩⟩))
end SXNew
end
section
/-! sx: ends, the copy of an array -/
section SXRet
variable {N : Nat} {ih : sx_ih} {w d mi pc n cs ss : Nat} {lst : List sx_I} {L S : List Nat} {h : sx_H} {sy : sx_Y} {outs : List sx_O}
variable {p : Program} {l : Launch} {e : Env} {R : Room} {s : State} {m : MethodId} {args : Array Value} {below : List Frame} {meth : Method} {c : Code} {D : va_G} {K : ClassId → FieldType → Prop} {b : Nat → Nat} {xs : Nat → Int32} {A : Nat → Prop} {q : sx_M}
variable {ad : List Nat} {rs : List Int32} {ls : Array Slot} {st : List Value} {H : Heap} {locs : List Loc} {cells slots : Nat} {Q : State → Prop}
theorem sx_imp {Q1 : State → Prop} {g : JFrame} (h : W p l e R s m args below meth c H locs cells slots Q1 g) (f : ∀ t, Q1 t → Q t) : W p l e R s m args below meth c H locs cells slots Q g := by
  intro T hT X
  obtain ⟨t, a, b⟩ := h T hT X
  exact ⟨t, a, f t b⟩
/-- what an end without a throw gives -/
theorem sx_ended {kd v : Nat} {oc : Outcome} (hA : sx_At R s c D K b N xs A ad rs cells slots locs L S h n sy cs ss ls st H) (hQ : ∀ t, sx_En R s below D K b A ad rs (kd, v, h, n, sy, cs, ss) t → Q t) (ho : ∀ t, sx_Oc s b ad rs kd v oc t) :
    ∀ t, MQ below (fun _ _ o t => o = oc ∧ t.heap = H) args s cells slots A t → Q t := by
  rintro t ⟨o, h1, h2, ⟨h3, h4⟩, Lx, ⟨-, h5, h6⟩, h7⟩
  obtain ⟨-, -, hY, hG, hS, -, hr1, hr2, -⟩ := hA
  subst h3
  refine hQ t ⟨_, ad, rs, Lx, cells, slots, h1, h2, h5, h6, List.prefix_rfl, List.prefix_rfl, hY, by rw [h4]; exact hG, ⟨by rw [h4]; exact hS.1, by rw [h4]; exact hS.2.1, h7⟩, hr1, hr2, ho t⟩
theorem sx_oiI : Cond.instanceMethod Lib.objectInit ∈ sx_wl := sx_isW_ok (by decide +kernel)
theorem sx_oiC : Cond.code Lib.objectInit ⟨#[0xb1]⟩ 1 none ∈ sx_wl := List.mem_filter.mpr ⟨List.mem_of_getElem? (i := 156) (by decide +kernel), by decide +kernel⟩
theorem sx_acS : Cond.static arraycopyName ∈ sx_wl := sx_isW_ok (by decide +kernel)
theorem sx_acN : Cond.native arraycopyName ∈ sx_wl := sx_isW_ok (by decide +kernel)
theorem sx_acZ : Cond.initialized "java/lang/System" ∈ sx_wl := sx_isW_ok (by decide +kernel)
theorem sx_sRet (IH : sx_Ok N ih) (hC : sx_Cx p e R s m meth c D K b N xs A mi d q) (hA : sx_At R s c D K b N xs A ad rs cells slots locs L S h n sy cs ss ls st H) (hL : sx_Ls p l e R s m args below meth c D K b N xs A Q ad rs lst) (hQ : ∀ o ∈ outs, ∀ t, sx_En R s below D K b A ad rs o t → Q t)
    (hk : sx_k26 q pc w = true) (hr : sx_oRet w S h n sy cs ss = some outs) : W p l e R s m args below meth c H locs cells slots Q (F0 m pc ls st) := by
  obtain ⟨-, hx, -, hb, hml, -, -, -, hown, -, hT, -⟩ := id hC
  obtain ⟨hLc, hSt, hrest⟩ := id hA
  obtain ⟨-, -, -, -, -, hret, -, -, -, hlocks, -⟩ := id hC
  unfold sx_oRet at hr
  cases S with
  | nil => cases hr
  | cons v r =>
  obtain ⟨x, st', rfl, hv, hSt'⟩ := hSt.cons
  rw [sx_p1_cons] at hr
  obtain ⟨hty, hr⟩ := sx_if_ok hr
  cases r with
  | cons y r2 => cases hr
  | nil =>
  have e := hSt'.nil
  subst e
  have hr : some [(1, v, h, n, sy, cs, ss)] = some outs := hr
  cases hr
  obtain ⟨hY, hG, hS, hxs, hrm⟩ := id hrest
  have hQ1 := hQ _ (List.mem_singleton.mpr rfl)
  have ho : ∀ t, sx_Oc s b ad rs 1 v (.returned (some x)) t := fun t => Or.inr (Or.inl ⟨rfl, x, rfl, hv⟩)
  unfold sx_k26 at hk
  split at hk
  · rename_i w0
    rw [w0] at hty
    simp only [Bool.and_eq_true, decide_eq_true_eq] at hk
    obtain ⟨z, rfl⟩ := hv.i (sx_ble hty)
    exact sx_imp (W.iret (Qc := fun _ _ o t => o = .returned (some (.int z)) ∧ t.heap = H) (free := A) hx hb (hret.trans hk.1) (fun t h1 _ => ⟨rfl, h1⟩) hS.2.2 (sx_dc_ok hk.2) hlocks) (sx_ended hA hQ1 ho)
  split at hk
  · rename_i w0 w1
    rw [w1] at hty
    simp only [Bool.and_eq_true, decide_eq_true_eq] at hk
    obtain ⟨t1, t2⟩ := sx_and_ok (show sx_and (Nat.beq (sx_tg v) 0) (Nat.ble (sx_pl v) 1) = true from hty)
    have e := hv.t0 (sx_beq t1)
    subst e
    exact sx_imp (W.zret (Qc := fun _ _ o t => o = .returned (some (.int (Int32.ofNat (v / 8)))) ∧ t.heap = H) (free := A) hx hb (hret.trans hk.1) (sx_fit_bool (sx_ble t2)).1 (fun t h1 _ => ⟨rfl, h1⟩) hS.2.2 (sx_dc_ok hk.2) hlocks) (sx_ended hA hQ1 ho)
  · rename_i w0 w1
    simp only [Bool.and_eq_true, decide_eq_true_eq] at hk
    rw [sx_beq_e w0, sx_if_f, sx_beq_e w1, sx_if_f] at hty
    have e := hv.t4 (sx_beq hty)
    subst e
    exact sx_imp (W.lret (Qc := fun _ _ o t => o = .returned (some (.long (Int64.ofNat (v / 8)))) ∧ t.heap = H) (free := A) hx hb (hret.trans hk.1) (fun t h1 _ => ⟨rfl, h1⟩) hS.2.2 (sx_dc_ok hk.2) hlocks) (sx_ended hA hQ1 ho)
theorem sx_sVret (IH : sx_Ok N ih) (hC : sx_Cx p e R s m meth c D K b N xs A mi d q) (hA : sx_At R s c D K b N xs A ad rs cells slots locs L S h n sy cs ss ls st H) (hL : sx_Ls p l e R s m args below meth c D K b N xs A Q ad rs lst) (hQ : ∀ o ∈ outs, ∀ t, sx_En R s below D K b A ad rs o t → Q t)
    (hk : sx_k27 q pc = true) (hr : sx_nil S (some [(0, 0, h, n, sy, cs, ss)]) = some outs) : W p l e R s m args below meth c H locs cells slots Q (F0 m pc ls st) := by
  obtain ⟨-, hx, -, hb, hml, -, -, -, hown, -, hT, -⟩ := id hC
  obtain ⟨hLc, hSt, hrest⟩ := id hA
  obtain ⟨-, -, -, -, -, hret, -, -, -, hlocks, -⟩ := id hC
  cases S with
  | cons y r2 => cases hr
  | nil =>
  have e := hSt.nil
  subst e
  have hr : some [(0, 0, h, n, sy, cs, ss)] = some outs := hr
  cases hr
  obtain ⟨hY, hG, hS, hxs, hrm⟩ := id hrest
  unfold sx_k27 at hk
  simp only [Bool.and_eq_true, decide_eq_true_eq] at hk
  exact sx_imp (W.vret (Qc := fun _ _ o t => o = .returned none ∧ t.heap = H) (free := A) hx hb (hret.trans hk.1) (fun t h1 _ => ⟨rfl, h1⟩) hS.2.2 (sx_dc_ok hk.2) hlocks) (sx_ended hA (hQ _ (List.mem_singleton.mpr rfl)) (fun t => Or.inl ⟨rfl, rfl⟩))
theorem sx_sObj (IH : sx_Ok N ih) (hC : sx_Cx p e R s m meth c D K b N xs A mi d q) (hA : sx_At R s c D K b N xs A ad rs cells slots locs L S h n sy cs ss ls st H) (hL : sx_Ls p l e R s m args below meth c D K b N xs A Q ad rs lst) (hQ : ∀ o ∈ outs, ∀ t, sx_En R s below D K b A ad rs o t → Q t)
    (hk : sx_k24 q pc w = true) (hr : sx_oObj ih d mi (sx_mt mi).1 lst pc L S h n sy cs ss = some outs) : W p l e R s m args below meth c H locs cells slots Q (F0 m pc ls st) := by
  obtain ⟨-, hx, -, hb, hml, -, -, -, hown, -, hT, -⟩ := id hC
  obtain ⟨hLc, hSt, hrest⟩ := id hA
  obtain ⟨-, -, -, -, -, -, -, -, -, -, -, -, -, -, -, -, -, hfr, hlo⟩ := id hC
  unfold sx_oObj at hr
  cases S with
  | nil => cases hr
  | cons v r =>
  obtain ⟨x, st', rfl, hv, hSt'⟩ := hSt.cons
  rw [sx_p1_cons] at hr
  obtain ⟨hc, hr⟩ := sx_if_ok hr
  obtain ⟨c1, c2⟩ := sx_and_ok hc
  have c2 : r.length ≤ 40 := sx_ble c2
  rw [sx_fo_eq] at hr
  obtain ⟨a, ha, rfl⟩ := hv.t2 (sx_beq c1)
  unfold sx_k24 at hk
  obtain ⟨t, ht, hk⟩ := sx_oa_ok hk
  simp only [Bool.and_eq_true, decide_eq_true_eq] at hk
  obtain ⟨hcls, hd, ho⟩ := hk
  obtain ⟨hY, hG, hS, hxs, hr1, hr2, hr3⟩ := id hrest
  have hsum := hSt'.sum
  refine W.objInit hx hb hown (idx := t.2.1) (by rw [← ho, ← hcls]; exact hT.1 args _ (sx_ml_in ht)) (hT.1 args _ sx_oiI) (hT.1 args _ sx_oiC) (g := F0 m pc ls (.ref a :: st')) rfl (by show ls.size = _; rw [hLc.1, hr3]) rfl (sx_dc_ok hd) (by omega) ?_ (sx_go IH hr hC ⟨hLc, hSt', hrest⟩ hL List.prefix_rfl List.prefix_rfl (fun _ h => h) hQ)
  show 2 * 0 + _ + 12 ≤ R.locals
  omega
theorem sx_sCpy (IH : sx_Ok N ih) (hC : sx_Cx p e R s m meth c D K b N xs A mi d q) (hA : sx_At R s c D K b N xs A ad rs cells slots locs L S h n sy cs ss ls st H) (hL : sx_Ls p l e R s m args below meth c D K b N xs A Q ad rs lst) (hQ : ∀ o ∈ outs, ∀ t, sx_En R s below D K b A ad rs o t → Q t)
    (hk : sx_k25 q pc w = true) (hr : sx_oCpy ih d mi (sx_mt mi).1 lst pc L S h n sy cs ss = some outs) : W p l e R s m args below meth c H locs cells slots Q (F0 m pc ls st) := by
  obtain ⟨-, hx, -, hb, hml, -, -, -, hown, -, hT, -⟩ := id hC
  obtain ⟨hLc, hSt, hrest⟩ := id hA
  obtain ⟨-, -, -, -, -, -, -, -, -, -, -, -, -, -, -, -, -, hfr, hlo⟩ := id hC
  unfold sx_oCpy at hr
  cases S with
  | nil => cases hr
  | cons v r =>
  cases r with
  | nil => cases hr
  | cons u r2 =>
  cases r2 with
  | nil => cases hr
  | cons t r3 =>
  cases r3 with
  | nil => cases hr
  | cons y r4 =>
  cases r4 with
  | nil => cases hr
  | cons z r5 =>
  obtain ⟨x1, st1, rfl, hv1, hSt1⟩ := hSt.cons
  obtain ⟨x2, st2, rfl, hv2, hSt2⟩ := hSt1.cons
  obtain ⟨x3, st3, rfl, hv3, hSt3⟩ := hSt2.cons
  obtain ⟨x4, st4, rfl, hv4, hSt4⟩ := hSt3.cons
  obtain ⟨x5, st5, rfl, hv5, hSt5⟩ := hSt4.cons
  rw [sx_p1_cons, sx_p1_cons, sx_p1_cons, sx_p1_cons, sx_p1_cons] at hr
  obtain ⟨hc, hr⟩ := sx_if_ok hr
  obtain ⟨c0, c1⟩ := sx_and_ok hc
  obtain ⟨c00, c0⟩ := sx_and_ok c0
  have c00 : r5.length ≤ 40 := sx_ble c00
  obtain ⟨p1, p2⟩ := sx_and_ok c0
  have p1 : u = 0 := sx_beq p1
  have p2 : y = 0 := sx_beq p2
  obtain ⟨ca, cb⟩ := sx_and_ok c1
  obtain ⟨ca, -⟩ := sx_and_ok ca
  obtain ⟨cb, -⟩ := sx_and_ok cb
  simp only [sx_rdK_eq, sx_fo_eq, sx_wrK_eq] at hr
  obtain ⟨hc2, hr⟩ := sx_if_ok hr
  obtain ⟨d1, d2⟩ := sx_and_ok hc2
  obtain ⟨d0, d1⟩ := sx_and_ok d1
  obtain ⟨d2, d3⟩ := sx_and_ok d2
  have d0 : (sx_rd h (z / 8)).1 % 256 = 100 := sx_beq d0
  have d1 : (sx_rd h (z / 8)).1 = (sx_rd h (t / 8)).1 := sx_beq d1
  have d3 : v = 8 * ((sx_rd h (z / 8)).1 / 256) := sx_beq d3
  obtain ⟨aa, haa, rfl⟩ := hv5.t2 (sx_beq ca)
  obtain ⟨ab, hab, rfl⟩ := hv3.t2 (sx_beq cb)
  have e2 := hv2.t0 (by rw [p1])
  have e4 := hv4.t0 (by rw [p2])
  have e1 := hv1.t0 (by rw [d3]; exact Nat.mul_mod_right 8 _)
  rw [p1] at e2
  rw [p2] at e4
  rw [d3, Nat.mul_div_cancel_left _ (by decide)] at e1
  subst e1
  subst e2
  subst e4
  unfold sx_k25 at hk
  obtain ⟨tl, htl, hk⟩ := sx_oa_ok hk
  simp only [Bool.and_eq_true, decide_eq_true_eq] at hk
  obtain ⟨hcls, hd, ho⟩ := hk
  obtain ⟨hY, hG, hS, hxs, hr1, hr2, hr3⟩ := id hrest
  obtain ⟨ws, ea, hP, hD, g3, g4, g5, g6, hea, hEa⟩ := hG.at haa
  obtain ⟨eb, heb, hEb⟩ : ∃ eb, ws[t / 8]? = some (ab, eb) ∧ sx_E K b ad rs (sx_rd h (t / 8)) eb := by
    rw [← g3, List.getElem?_map] at hab
    cases hw : ws[t / 8]? with
    | none => rw [hw] at hab; cases hab
    | some qq =>
      rw [hw] at hab
      obtain ⟨qa, qe⟩ := qq
      have : qa = ab := by simpa using hab
      subst this
      exact ⟨qe, rfl, g6 _ _ hw⟩
  rcases hEa with ⟨ci, fs, -, q2, ⟨C, q3, -⟩, -⟩ | ⟨cA, f, rfl, q2, q3, q4⟩ | ⟨cA, f, -, q2, -⟩ | ⟨cA, f, -, q2, -⟩
  · have := (List.getElem?_eq_some_iff.mp q3).1; rw [sx_fl_len.2] at this; omega
  · rcases hEb with ⟨ci, fs, -, q2', ⟨C, q3', -⟩, -⟩ | ⟨cB, g, rfl, q2', q3', q4'⟩ | ⟨cB, g, -, q2', -⟩ | ⟨cB, g, -, q2', -⟩
    · have := (List.getElem?_eq_some_iff.mp q3').1; rw [sx_fl_len.2] at this; omega
    · have hlen : (sx_rd h (z / 8)).1 / 256 ≤ 5000 := q3.2
      have hz : ¬ Int32.ofNat ((sx_rd h (z / 8)).1 / 256) < 0 := nI_pos (n := (sx_rd h (z / 8)).1 / 256) (by omega)
      have hcl : (Int32.ofNat ((sx_rd h (z / 8)).1 / 256)).toNatClampNeg = (sx_rd h (z / 8)).1 / 256 := nI_clamp (n := (sx_rd h (z / 8)).1 / 256) (by omega)
      have hKK : va_K D sx_classes [(cA, .int), (cB, .int)] s := by
        have h1 := sx_KA hT q3.1
        have h2 := sx_KA hT q3'.1
        exact h1.app h2
      have hsum := hSt5.sum
      have z0 : (Int32.ofNat (0 / 8)).toNatClampNeg = 0 := rfl
      refine va_copyi hx hb (by rw [hLc.1, hr3]) hown (index := tl.2.1) (by rw [← ho, ← hcls]; exact hT.1 args _ (sx_ml_in htl)) (hT.1 args _ sx_acN) (hT.1 args _ sx_acS) (hT.1 args _ sx_acZ) hKK hP hD hS (z / 8) (t / 8) 0 1 hea heb rfl rfl (ty := .int) rfl (by decide) (by decide) hz (by rw [hcl, z0]; omega) (by rw [hcl, z0, ← d1]; omega) (fun _ _ => rfl) (by omega) (by rw [show nativeFrameWords "java/lang/System" "arraycopy" 5 = 7 by decide +kernel]; omega) (sx_dc_ok hd) (fun H1 locs1 hP1 hD1 hS1 => ?_)
      rw [hcl, z0] at hP1 hD1
      refine sx_go IH hr hC ⟨hLc, hSt5, hY, sx_G.set g3 g4 g5 g6 heb hP1 hD1 ?_, hS1, hxs, hr1, hr2, hr3⟩ hL List.prefix_rfl List.prefix_rfl (fun _ h => h) hQ
      refine Or.inr (Or.inl ⟨cB, _, rfl, q2', q3', fun j hj => ?_⟩)
      have hj2 : j < (sx_rd h (z / 8)).1 / 256 := by rw [d1]; exact hj
      show sx_V b ad rs (sx_get (sx_rd h (z / 8)).2 j) (.int (va_cpy f g 0 0 ((sx_rd h (z / 8)).1 / 256) j))
      rw [pk_cpy_in (Nat.zero_le j) (by omega), show 0 + (j - 0) = j by omega]
      exact q4 j hj2
    · omega
    · omega
  · omega
  · omega
end SXRet
end
section
/-! sx: a walk begun anew -/
section SXRb
variable {N : Nat} {ih : sx_ih} {w d mi pc n cs ss : Nat} {lst : List sx_I} {L S : List Nat} {h : sx_H} {sy : sx_Y} {outs : List sx_O}
variable {p : Program} {l : Launch} {e : Env} {R : Room} {s : State} {m : MethodId} {args : Array Value} {below : List Frame} {meth : Method} {c : Code} {D : va_G} {K : ClassId → FieldType → Prop} {b : Nat → Nat} {xs : Nat → Int32} {A : Nat → Prop} {q : sx_M}
variable {ad : List Nat} {rs : List Int32} {ls : Array Slot} {st : List Value} {H : Heap} {locs : List Loc} {cells slots : Nat} {Q : State → Prop}
/-- the walk as if it began here -/
theorem sx_rebase {T : State} (X : Stand p l e R s m args below meth c T locs cells slots) (hc : cells ≤ R.cells) (hs : slots ≤ R.slots) :
    Stand p l e { frames := R.frames, cells := R.cells - cells, slots := R.slots - slots, locals := R.locals } (T.setFrames (.invoking m args :: below)) m args below meth c T [] 0 0 := by
  obtain ⟨g₀, hfr⟩ := X.frames_eq
  have hcur : T.cur < T.threads.size := State.cur_lt_of_frames hfr
  have hf' : (T.setFrames (.invoking m args :: below)).frames = .invoking m args :: below := State.frames_setFrames _ hcur
  have hm' : T.vm.method? m = some meth := X.method'
  have hh := X.heapHas (a := R.cells - cells) (b := R.slots - slots) (by omega) (by omega)
  refine ⟨X.admits, X.cas, X.clock, hf', ?_, ?_, hm', X.code, X.here, X.tail, State.WarmedH.refl _, (State.stackLimits_setFrames _ _ _).symm, (State.stackBytes_setFrames _ _).symm, ?_⟩
  · have hr := X.room
    simp only [State.hasRoom, Bool.and_eq_true, decide_eq_true_eq] at hr ⊢
    obtain ⟨⟨⟨⟨r1, r2, r3, r4, r5, r6⟩, r7⟩, r8⟩, r9⟩ := hr
    rw [State.localsInUse_invoking X.frames X.method X.code] at r1 r4 r5
    rw [State.localsInUse_invoking hf' hm' X.code, hf', State.stackLimits_setFrames, X.limits, State.stackBytes_setFrames, X.bytes]
    rw [X.frames] at r2 r3
    exact ⟨⟨⟨⟨r1, r2, r3, r4, r5, r6⟩, hh.1⟩, hh.2⟩, X.book⟩
  · have h1 := X.hears
    have hmm : ∀ x : MethodId, T.vm.method? x = s.vm.method? x := fun x => X.warmed.alike.method? x
    cases below with
    | nil => simp only [State.hears] at h1 ⊢; show Option.any _ (T.vm.method? m) = true; rw [hmm]; exact h1
    | cons f r =>
      cases f with
      | java g =>
        simp only [State.hears] at h1 ⊢
        have e1 : (T.setFrames (.invoking m args :: .java g :: r)).code? g.method = s.code? g.method := by
          rw [State.code?_eq, State.code?_eq]
          show (T.vm.method? g.method).bind _ = _
          rw [hmm]
        rw [e1]
        exact h1
      | native _ => rfl
      | proc _ => rfl
      | _ => simp only [State.hears] at h1 ⊢; show Option.any _ (T.vm.method? m) = true; rw [hmm]; exact h1
  · obtain ⟨t, ht, -⟩ := State.frames_cons hf'
    have h := (State.sameButNew.refl (T.setFrames (.invoking m args :: below)) ht).setFrames T.frames (State.cur_lt_of_frames hf')
    rw [State.setFrames_setFrames] at h
    obtain ⟨t2, ht2, -⟩ := State.frames_cons hfr
    rw [State.setFrames_self ht2] at h
    exact h
/-- what is made and written since then is made and written since the beginning -/
theorem sx_since {T U : State} {l2 : List Loc} {c2 s2 : Nat} (X : Stand p l e R s m args below meth c T locs cells slots) (h : (T.setFrames (.invoking m args :: below)).sameButNew ({ U with vm := (T.setFrames (.invoking m args :: below)).vm } : State) l2 c2 s2) :
    s.sameButNew ({ U with vm := s.vm } : State) (locs ++ l2) (cells + c2) (slots + s2) := by
  obtain ⟨g₀, hfr⟩ := X.frames_eq
  have hcur : T.cur < T.threads.size := State.cur_lt_of_frames hfr
  have h1 := X.same.setFrames (.invoking m args :: below) X.cur
  exact h1.trans (h.setVm s.vm)
end SXRb
end
