/-! sx: loads, stores, sums, branches -/
section SXOps2
variable {N : Nat} {ih : sx_ih} {w d mi pc n cs ss : Nat} {lst : List sx_I} {L S : List Nat} {h : sx_H} {sy : sx_Y} {outs : List sx_O}
variable {p : Program} {l : Launch} {e : Env} {R : Room} {s : State} {m : MethodId} {args : Array Value} {below : List Frame} {meth : Method} {c : Code} {D : va_G} {K : ClassId → FieldType → Prop} {b : Nat → Nat} {xs : Nat → Int32} {A : Nat → Prop} {q : sx_M}
variable {ad : List Nat} {rs : List Int32} {ls : Array Slot} {st : List Value} {H : Heap} {locs : List Loc} {cells slots : Nat} {Q : State → Prop}
theorem sx_sLoad (IH : sx_Ok N ih) (hC : sx_Cx p e R s m meth c D K b N xs A mi d q) (hA : sx_At R s c D K b N xs A ad rs cells slots locs L S h n sy cs ss ls st H) (hL : sx_Ls p l e R s m args below meth c D K b N xs A Q ad rs lst) (hQ : ∀ o ∈ outs, ∀ t, sx_En R s below D K b A ad rs o t → Q t)
    (hk : sx_k2 q pc w = true) (hr : sx_oLoad ih w d mi (sx_mt mi).1 lst pc L S h n sy cs ss = some outs) : W p l e R s m args below meth c H locs cells slots Q (F0 m pc ls st) := by
  obtain ⟨-, hx, -, hb, hml, -, -, -, hown, -, hT, -⟩ := id hC
  obtain ⟨hLc, hSt, hrest⟩ := id hA
  unfold sx_oLoad at hr
  simp only [sx_fo_eq] at hr
  obtain ⟨hty, hr⟩ := sx_if_ok hr
  have go : ∀ (x : Value) (pc' : Nat), pc' = Nat.add pc (Nat.mod (sx_wb w) 16) → sx_V b ad rs (sx_ln L (sx_wa w)) x → W p l e R s m args below meth c H locs cells slots Q (F0 m pc' ls (x :: st)) := by
    intro x pc' hp hv
    subst hp
    exact sx_go IH hr hC ⟨hLc, ⟨hv, hSt⟩, hrest⟩ hL List.prefix_rfl List.prefix_rfl (fun _ h => h) hQ
  have f4 : sx_wa w < 4 → ((sx_f4 (sx_wa w) : Fin 4) : Nat) = sx_wa w := fun h => Nat.mod_eq_of_lt h
  unfold sx_k2 at hk
  split at hk
  · rename_i hw
    simp only [Bool.and_eq_true, decide_eq_true_eq] at hk
    rw [hw] at hty
    have ht : sx_ln L (sx_wa w) % 8 ≤ 1 := sx_ble hty
    obtain ⟨x, h1, h2⟩ := hLc.at rfl (fun h => by rw [h] at ht; omega)
    obtain ⟨z, rfl⟩ := h2.i ht
    exact lv_iload_n hx hb (sx_dc_ok hk.2) (f4 hk.1) h1 (go _ _ (by rw [hw]) h2)
  split at hk
  · rename_i hw
    rw [hw] at hty
    have ht : sx_ln L (sx_wa w) % 8 ≤ 1 := sx_ble hty
    obtain ⟨x, h1, h2⟩ := hLc.at rfl (fun h => by rw [h] at ht; omega)
    obtain ⟨z, rfl⟩ := h2.i ht
    exact lv_iload hx hb (sx_dc_ok hk) h1 (go _ _ (by rw [hw]) h2)
  have tyA : ∀ v, sx_ty 1 v = true → v % 8 = 2 ∨ v % 8 = 5 := by
    intro v hv
    have hv : sx_if (Nat.beq (sx_tg v) 2) true (Nat.beq (sx_tg v) 5) = true := hv
    cases h2 : Nat.beq (sx_tg v) 2 with
    | true => exact Or.inl (sx_beq h2)
    | false => rw [h2, sx_if_f] at hv; exact Or.inr (sx_beq hv)
  have refA : ∀ v, (v % 8 = 2 ∨ v % 8 = 5) → ∀ x : Value, sx_V b ad rs v x → ∃ a, x = .ref a := by
    intro v hv x hx
    rcases hv with hv | hv
    · obtain ⟨a, -, ha⟩ := hx.t2 hv; exact ⟨a, ha⟩
    · exact ⟨_, hx.t5 hv⟩
  split at hk
  · rename_i hw
    simp only [Bool.and_eq_true, decide_eq_true_eq] at hk
    rw [hw] at hty
    have ht := tyA _ hty
    obtain ⟨x, h1, h2⟩ := hLc.at rfl (fun h => by rw [h] at ht; omega)
    obtain ⟨z, rfl⟩ := refA _ ht x h2
    exact lv_aload_n hx hb (sx_dc_ok hk.2) (f4 hk.1) h1 (go _ _ (by rw [hw]) h2)
  split at hk
  · rename_i hw
    rw [hw] at hty
    have ht := tyA _ hty
    obtain ⟨x, h1, h2⟩ := hLc.at rfl (fun h => by rw [h] at ht; omega)
    obtain ⟨z, rfl⟩ := refA _ ht x h2
    exact lv_aload hx hb (sx_dc_ok hk) h1 (go _ _ (by rw [hw]) h2)
  split at hk
  · rename_i hw
    simp only [Bool.and_eq_true, decide_eq_true_eq] at hk
    rw [hw] at hty
    have ht : sx_ln L (sx_wa w) % 8 = 4 := sx_beq hty
    obtain ⟨x, h1, h2⟩ := hLc.at rfl (fun h => by rw [h] at ht; omega)
    have e := h2.t4 ht
    rw [e] at h1
    exact lv_lload_n hx hb (sx_dc_ok hk.2) (f4 hk.1) h1 (go _ _ (by rw [hw]) (by rw [← e]; exact h2))
  · simp only [Bool.and_eq_true, decide_eq_true_eq] at hk
    obtain ⟨hw, hk⟩ := hk
    rw [hw] at hty
    have ht : sx_ln L (sx_wa w) % 8 = 4 := sx_beq hty
    obtain ⟨x, h1, h2⟩ := hLc.at rfl (fun h => by rw [h] at ht; omega)
    have e := h2.t4 ht
    rw [e] at h1
    exact lv_lload hx hb (sx_dc_ok hk) h1 (go _ _ (by rw [hw]) (by rw [← e]; exact h2))
theorem sx_sStore (IH : sx_Ok N ih) (hC : sx_Cx p e R s m meth c D K b N xs A mi d q) (hA : sx_At R s c D K b N xs A ad rs cells slots locs L S h n sy cs ss ls st H) (hL : sx_Ls p l e R s m args below meth c D K b N xs A Q ad rs lst) (hQ : ∀ o ∈ outs, ∀ t, sx_En R s below D K b A ad rs o t → Q t)
    (hk : sx_k3 q pc w = true) (hr : sx_oStore ih w d mi (sx_mt mi).1 lst pc L S h n sy cs ss = some outs) : W p l e R s m args below meth c H locs cells slots Q (F0 m pc ls st) := by
  obtain ⟨-, hx, -, hb, hml, -, -, -, hown, -, hT, -⟩ := id hC
  obtain ⟨hLc, hSt, hrest⟩ := id hA
  obtain ⟨hY, hG, hS, hxs, hr1, hr2, hln⟩ := id hrest
  unfold sx_oStore at hr
  cases S with
  | nil => cases hr
  | cons v r =>
  have hr : sx_if (sx_ty (Nat.div (sx_wb w) 16) v) _ none = some outs := hr
  obtain ⟨hty, hr⟩ := sx_if_ok hr
  obtain ⟨hp, hr⟩ := sx_if_ok hr
  have hp := sx_st_ok hp
  simp only [sx_fo_eq] at hr
  obtain ⟨x, st', rfl, hv, hSt'⟩ := hSt.cons
  have f4 : sx_wa w < 4 → ((sx_f4 (sx_wa w) : Fin 4) : Nat) = sx_wa w := fun h => Nat.mod_eq_of_lt h
  have tyA : ∀ v, sx_ty 1 v = true → v % 8 = 2 ∨ v % 8 = 5 := by
    intro v hv
    have hv : sx_if (Nat.beq (sx_tg v) 2) true (Nat.beq (sx_tg v) 5) = true := hv
    cases h2 : Nat.beq (sx_tg v) 2 with
    | true => exact Or.inl (sx_beq h2)
    | false => rw [h2, sx_if_f] at hv; exact Or.inr (sx_beq hv)
  have refA : ∀ v, (v % 8 = 2 ∨ v % 8 = 5) → ∀ x : Value, sx_V b ad rs v x → ∃ a, x = .ref a := by
    intro v hv x hx
    rcases hv with hv | hv
    · obtain ⟨a, -, ha⟩ := hx.t2 hv; exact ⟨a, ha⟩
    · exact ⟨_, hx.t5 hv⟩
  unfold sx_k3 at hk
  split at hk
  · rename_i hw
    simp only [Bool.and_eq_true, decide_eq_true_eq] at hk
    rw [hw] at hty
    have ht : v % 8 ≤ 1 := sx_ble hty
    obtain ⟨z, rfl⟩ := hv.i ht
    rw [hw] at hr
    obtain ⟨hlen, hr⟩ := sx_if_ok (show sx_if (Nat.blt (sx_wa w) (List.length L)) _ none = some outs from hr)
    have hlt : sx_wa w < L.length := sx_blt hlen
    simp only [sx_stK_eq] at hr
    exact lv_istore_n hx hb (sx_dc_ok hk.2) (f4 hk.1) (sx_all_has hLc.2.1) (by rw [hLc.1]; exact hlt) rfl (fun ls' hl' => sx_go IH hr hC ⟨hLc.store1 hv hlt hp hl', hSt', hY, hG, hS, hxs, hr1, hr2, by rw [List.length_set]; exact hln⟩ hL List.prefix_rfl List.prefix_rfl (fun _ h => h) hQ)
  split at hk
  · rename_i hw
    rw [hw] at hty
    have ht : v % 8 ≤ 1 := sx_ble hty
    obtain ⟨z, rfl⟩ := hv.i ht
    rw [hw] at hr
    obtain ⟨hlen, hr⟩ := sx_if_ok (show sx_if (Nat.blt (sx_wa w) (List.length L)) _ none = some outs from hr)
    have hlt : sx_wa w < L.length := sx_blt hlen
    simp only [sx_stK_eq] at hr
    exact lv_istore hx hb (sx_dc_ok hk) (sx_all_has hLc.2.1) (by rw [hLc.1]; exact hlt) rfl (fun ls' hl' => sx_go IH hr hC ⟨hLc.store1 hv hlt hp hl', hSt', hY, hG, hS, hxs, hr1, hr2, by rw [List.length_set]; exact hln⟩ hL List.prefix_rfl List.prefix_rfl (fun _ h => h) hQ)
  split at hk
  · rename_i hw
    simp only [Bool.and_eq_true, decide_eq_true_eq] at hk
    rw [hw] at hty
    have ht := tyA _ hty
    obtain ⟨z, rfl⟩ := refA _ ht x hv
    rw [hw] at hr
    obtain ⟨hlen, hr⟩ := sx_if_ok (show sx_if (Nat.blt (sx_wa w) (List.length L)) _ none = some outs from hr)
    have hlt : sx_wa w < L.length := sx_blt hlen
    simp only [sx_stK_eq] at hr
    exact lv_astore_n hx hb (sx_dc_ok hk.2) (f4 hk.1) (sx_all_has hLc.2.1) (by rw [hLc.1]; exact hlt) rfl (fun ls' hl' => sx_go IH hr hC ⟨hLc.store1 hv hlt hp hl', hSt', hY, hG, hS, hxs, hr1, hr2, by rw [List.length_set]; exact hln⟩ hL List.prefix_rfl List.prefix_rfl (fun _ h => h) hQ)
  split at hk
  · rename_i hw
    rw [hw] at hty
    have ht := tyA _ hty
    obtain ⟨z, rfl⟩ := refA _ ht x hv
    rw [hw] at hr
    obtain ⟨hlen, hr⟩ := sx_if_ok (show sx_if (Nat.blt (sx_wa w) (List.length L)) _ none = some outs from hr)
    have hlt : sx_wa w < L.length := sx_blt hlen
    simp only [sx_stK_eq] at hr
    exact lv_astore hx hb (sx_dc_ok hk) (sx_all_has hLc.2.1) (by rw [hLc.1]; exact hlt) rfl (fun ls' hl' => sx_go IH hr hC ⟨hLc.store1 hv hlt hp hl', hSt', hY, hG, hS, hxs, hr1, hr2, by rw [List.length_set]; exact hln⟩ hL List.prefix_rfl List.prefix_rfl (fun _ h => h) hQ)
  split at hk
  · rename_i hw
    simp only [Bool.and_eq_true, decide_eq_true_eq] at hk
    rw [hw] at hty
    have ht : v % 8 = 4 := sx_beq hty
    have e := hv.t4 ht
    subst e
    rw [hw] at hr
    obtain ⟨hlen, hr⟩ := sx_if_ok (show sx_if (Nat.blt (Nat.succ (sx_wa w)) (List.length L)) _ none = some outs from hr)
    have hlt : sx_wa w + 1 < L.length := sx_blt hlen
    simp only [sx_stK_eq] at hr
    exact lv_lstore_n hx hb (sx_dc_ok hk.2) (f4 hk.1) (sx_all_has hLc.2.1) (by rw [hLc.1]; exact hlt) rfl (fun ls' hl' => sx_go IH hr hC ⟨hLc.store2 hv hlt hp hl', hSt', hY, hG, hS, hxs, hr1, hr2, by rw [List.length_set, List.length_set]; exact hln⟩ hL List.prefix_rfl List.prefix_rfl (fun _ h => h) hQ)
  · simp only [Bool.and_eq_true, decide_eq_true_eq] at hk
    obtain ⟨hw, hk⟩ := hk
    rw [hw] at hty
    have ht : v % 8 = 4 := sx_beq hty
    have e := hv.t4 ht
    subst e
    rw [hw] at hr
    obtain ⟨hlen, hr⟩ := sx_if_ok (show sx_if (Nat.blt (Nat.succ (sx_wa w)) (List.length L)) _ none = some outs from hr)
    have hlt : sx_wa w + 1 < L.length := sx_blt hlen
    simp only [sx_stK_eq] at hr
    exact lv_lstore hx hb (sx_dc_ok hk) (sx_all_has hLc.2.1) (by rw [hLc.1]; exact hlt) rfl (fun ls' hl' => sx_go IH hr hC ⟨hLc.store2 hv hlt hp hl', hSt', hY, hG, hS, hxs, hr1, hr2, by rw [List.length_set, List.length_set]; exact hln⟩ hL List.prefix_rfl List.prefix_rfl (fun _ h => h) hQ)
theorem sx_sBin (IH : sx_Ok N ih) (hC : sx_Cx p e R s m meth c D K b N xs A mi d q) (hA : sx_At R s c D K b N xs A ad rs cells slots locs L S h n sy cs ss ls st H) (hL : sx_Ls p l e R s m args below meth c D K b N xs A Q ad rs lst) (hQ : ∀ o ∈ outs, ∀ t, sx_En R s below D K b A ad rs o t → Q t)
    (hk : sx_k4 q pc w = true) (hr : sx_oBin ih w d mi (sx_mt mi).1 lst pc L S h n sy cs ss = some outs) : W p l e R s m args below meth c H locs cells slots Q (F0 m pc ls st) := by
  obtain ⟨-, hx, -, hb, hml, -, -, -, hown, -, hT, -⟩ := id hC
  obtain ⟨hLc, hSt, hrest⟩ := id hA
  unfold sx_oBin at hr
  cases S with
  | nil => cases hr
  | cons y r =>
  cases r with
  | nil => cases hr
  | cons x r =>
  obtain ⟨hii, hr⟩ := sx_if_ok (show sx_if (sx_ii x y) _ none = some outs from hr)
  obtain ⟨i1, i2⟩ := sx_and_ok hii
  obtain ⟨vy, st1, rfl, hvy, hSt1⟩ := hSt.cons
  obtain ⟨vx, st2, rfl, hvx, hSt2⟩ := hSt1.cons
  unfold sx_k4 at hk
  simp only [Bool.and_eq_true, decide_eq_true_eq] at hk
  obtain ⟨ho, hk⟩ := hk
  obtain ⟨hY, hG, hS, hxs, hrm⟩ := id hrest
  obtain ⟨zx, rfl⟩ := hvx.i (sx_ble i1)
  obtain ⟨zy, rfl⟩ := hvy.i (sx_ble i2)
  obtain ⟨v, sy', rs', outs', a1, a2, a3, a4, a5, a6⟩ := sx_bin2_ok hr hY hvx hvy
  simp only [sx_fo_eq] at a1
  have go : W p l e R s m args below meth c H locs cells slots Q (F0 m (pc + 1) ls (.int (sx_bf (sx_wa w) zx zy) :: st2)) := sx_go IH a1 hC ⟨hLc.mono List.prefix_rfl a3, ⟨a5, hSt2.mono List.prefix_rfl a3⟩, a4, hG.mono a3, hS, fun k hk => sx_pre a3 (hxs k hk), hrm⟩ hL List.prefix_rfl a3 a2 hQ
  have hd := sx_dc_ok hk
  rcases (show sx_wa w = 0 ∨ sx_wa w = 1 ∨ sx_wa w = 2 ∨ sx_wa w = 3 ∨ sx_wa w = 4 ∨ sx_wa w = 5 ∨ sx_wa w = 6 ∨ sx_wa w = 7 ∨ sx_wa w = 8 ∨ sx_wa w = 9 ∨ sx_wa w = 10 by omega) with ho | ho | ho | ho | ho | ho | ho | ho | ho | ho | ho
  all_goals rw [ho] at hd go a6
  · exact lv_iadd hx hb hd go
  · exact lv_isub hx hb hd go
  · exact lv_imul hx hb hd go
  · exact lv_iand hx hb hd go
  · exact lv_ior hx hb hd go
  · exact lv_ixor hx hb hd go
  · exact lv_ishl hx hb hd go
  · exact lv_ishr hx hb hd go
  · exact lv_iushr hx hb hd rfl go
  · exact lv_idiv hx hb hd (a6 (by decide)) go
  · exact lv_irem hx hb hd (a6 (by decide)) go
theorem sx_sIinc (IH : sx_Ok N ih) (hC : sx_Cx p e R s m meth c D K b N xs A mi d q) (hA : sx_At R s c D K b N xs A ad rs cells slots locs L S h n sy cs ss ls st H) (hL : sx_Ls p l e R s m args below meth c D K b N xs A Q ad rs lst) (hQ : ∀ o ∈ outs, ∀ t, sx_En R s below D K b A ad rs o t → Q t)
    (hk : sx_k5 q pc w = true) (hr : sx_oIinc ih w d mi (sx_mt mi).1 lst pc L S h n sy cs ss = some outs) : W p l e R s m args below meth c H locs cells slots Q (F0 m pc ls st) := by
  obtain ⟨-, hx, -, hb, hml, -, -, -, hown, -, hT, -⟩ := id hC
  obtain ⟨hLc, hSt, hrest⟩ := id hA
  unfold sx_oIinc at hr
  obtain ⟨hp, hr⟩ := sx_if_ok hr
  obtain ⟨hlen, hr⟩ := sx_if_ok hr
  have hp := sx_st_ok hp
  have hlt : sx_wa w < L.length := sx_blt hlen
  rw [sx_fo_eq] at hr
  obtain ⟨i1, hr⟩ := sx_if_ok hr
  have i1 : sx_ln L (sx_wa w) % 8 ≤ 1 := sx_ble i1
  obtain ⟨hY, hG, hS, hxs, hrm⟩ := id hrest
  have hc : sx_V b ad rs (Nat.mul 8 (sx_wc w)) (.int (Int32.ofNat (sx_wc w))) := Or.inl ⟨Nat.mul_mod_right 8 _, by rw [show Nat.mul 8 (sx_wc w) / 8 = sx_wc w from Nat.mul_div_cancel_left _ (by decide)]⟩
  have h7 : sx_ln L (sx_wa w) ≠ 7 := fun h7 => by
    rw [h7] at i1
    omega
  obtain ⟨x, h1, h2⟩ := hLc.at rfl h7
  obtain ⟨z, rfl⟩ := h2.i i1
  obtain ⟨v, sy', rs', outs', a1, a2, a3, a4, a5, a6⟩ := sx_bin_ok hr hY h2 hc
  simp only [sx_stK_eq, sx_fo_eq] at a1
  obtain ⟨k, hk2⟩ := List.getElem?_of_mem (sx_all_mem.mpr h1)
  refine lv_iinc hx hb (sx_dc_ok hk) (sx_all_has hLc.2.1) hk2 (v := sx_bf 0 z (Int32.ofNat (sx_wc w))) (by rw [Int32.ofInt_toInt]; rfl) (by rw [hLc.1]; exact hlt) rfl (fun ls' hl' => ?_)
  exact sx_go IH a1 hC ⟨(hLc.mono List.prefix_rfl a3).store1 a5 hlt hp hl', hSt.mono List.prefix_rfl a3, a4, hG.mono a3, hS, fun k hk => sx_pre a3 (hxs k hk), hrm.1, hrm.2.1, by rw [List.length_set]; exact hrm.2.2⟩ hL List.prefix_rfl a3 a2 hQ
end SXOps2
