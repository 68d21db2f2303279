/-! sx: what holds at the law's entry -/
def sx_pm : List Cond → List Nat → List Cond → Bool
  | _, [], [] => true
  | l, g :: gs, w :: ws => match l.drop g with
    | a :: l' => decide (a = w) && sx_pm l' gs ws
    | [] => false
  | _, _, _ => false
theorem sx_pm_ok : ∀ {gs : List Nat} {ws l : List Cond}, sx_pm l gs ws = true → ∀ w ∈ ws, w ∈ l
  | [], [], l, _, w, hw => by cases hw
  | [], _ :: _, l, h, _, _ => by simp [sx_pm] at h
  | _ :: _, [], l, h, _, _ => by simp [sx_pm] at h
  | g :: gs, w :: ws, l, h, v, hv => by
    unfold sx_pm at h
    cases hd : l.drop g with
    | nil => rw [hd] at h; cases h
    | cons a l' =>
      rw [hd] at h
      simp only [Bool.and_eq_true, decide_eq_true_eq] at h
      obtain ⟨rfl, h2⟩ := h
      have hsub : ∀ x ∈ a :: l', x ∈ l := fun x hx => List.mem_of_mem_drop (hd ▸ hx)
      rcases List.mem_cons.mp hv with rfl | hv
      · exact hsub _ List.mem_cons_self
      · exact hsub _ (List.mem_cons_of_mem _ (sx_pm_ok h2 v hv))
def sx_sw : List Cond := [.arrayOver (.object "AbsentRings$Table"), .castable "java/lang/IllegalArgumentException" "java/lang/IllegalArgumentException", .declares (Bundle.initS "java/lang/RuntimeException"), .declares (Bundle.initS "java/lang/Exception"), .declares (Bundle.initS Bundle.tN), .laysStatic Bundle.tN "UNASSIGNED_STACK" Bundle.steD, .laysStatic Bundle.tN "SUPPRESSED_SENTINEL" Bundle.listD, .castable "java/lang/UnsupportedOperationException" "java/lang/UnsupportedOperationException", .castable "java/lang/IndexOutOfBoundsException" "java/lang/IndexOutOfBoundsException", .castable "java/util/NoSuchElementException" "java/util/NoSuchElementException", .castable "java/lang/IllegalStateException" "java/lang/IllegalStateException"]
theorem sx_z33 : sx_pm lw_tbl sx_nlg (sx_nl.map (fun t => .methodLinkNest t.1 t.2.1 t.2.2.1 t.2.2.2)) = true := by decide +kernel
theorem sx_z77b : sx_pm lw_tbl sx_srg (sx_sr.map (fun t => .stringRef t.1 t.2.1 t.2.2)) = true := by decide +kernel
theorem sx_zsw : sx_pm lw_tbl [489, 542, 1, 1, 1, 18, 1, 42, 50, 59, 73] sx_sw = true := by decide +kernel
theorem sx_ncast : sx_exc.all (fun x => sx_exc.all (fun y => decide (x = y) || decide (Cond.not (.castable x y) ∈ flatC (Jvm.Cond.and given_1 narrow_1)))) = true := by decide +kernel
theorem sx_nst : (Cond.isRef (.static Bundle.tN "UNASSIGNED_STACK" Bundle.steD)) ∈ flatC (Jvm.Cond.and given_1 narrow_1) ∧ (Cond.isRef (.static Bundle.tN "SUPPRESSED_SENTINEL" Bundle.listD)) ∈ flatC (Jvm.Cond.and given_1 narrow_1) := by decide +kernel
section SXStart
variable {s : State} {b : Nat}
theorem sx_cself (hts : ∀ w ∈ lw_tbl, w.before #[Value.ref b] s = true) : ∀ x ∈ sx_exc, (Cond.castable x x).before #[Value.ref b] s = true := by
  intro x hx
  have hall : sx_exc.all (fun x => decide (Cond.castable x x ∈ sx_sw)) = true := by decide +kernel
  exact hts _ (sx_pm_ok sx_zsw _ (of_decide_eq_true (List.all_eq_true.mp hall x hx)))
theorem sx_kn (hts : ∀ w ∈ lw_tbl, w.before #[Value.ref b] s = true) : ∃ D, va_K D sx_classes [] s := by
  have h1 : ∀ c : Nat, ∃ z : ClassId × (Nat → Nat), ∀ q, sx_classes[c]? = some q → u_Kn s q.1 q.2.1 q.2.2 z.1 z.2 := by
    intro c
    cases hc : sx_classes[c]? with
    | none => exact ⟨(0, fun _ => 0), fun q hq => by cases hq⟩
    | some q =>
      obtain ⟨h1, -, h3, -⟩ := sx_cls_in hc
      obtain ⟨cC, iS, h⟩ := u_known (ws := lw_tbl) (args := #[Value.ref b]) hts (fun w hw => (sx_wl_in (h1 w hw)).1) (hts _ (sx_wl_in h3).1)
      exact ⟨(cC, iS), fun q' hq => by cases hq; exact h⟩
  obtain ⟨f, hf⟩ := Classical.axiomOfChoice h1
  exact ⟨(fun c => (f c).1, fun c => (f c).2), fun c q hq => hf c q hq, fun k q hq => by simp at hq⟩
theorem sx_Tb_start (hts : ∀ w ∈ lw_tbl, w.before #[Value.ref b] s = true) (hgv : (Jvm.Cond.and given_1 narrow_1).before #[Value.ref b] s = true) : ∃ D K, sx_Tb D K s := by
  obtain ⟨D, hD⟩ := sx_kn hts
  have hsw : ∀ w ∈ sx_sw, w.before #[Value.ref b] s = true := fun w hw => hts w (sx_pm_ok sx_zsw w hw)
  have hfl := flat_of_before _ hgv
  refine ⟨D, fun cA ty => ArrOfT s cA ty ∧ va_RA s cA ty, fun a w hw => word_at (args := #[Value.ref b]) (State.WarmedH.refl s) (good_of_word (sx_wl_in hw).2) (hts w (sx_wl_in hw).1), fun q hq => va_Nw.of rfl (hts _ (sx_pm_ok sx_z33 _ (List.mem_map.mpr ⟨q, hq, rfl⟩))), ⟨fun q hq => ?_, fun x hx => va_Nw.of rfl (sx_cself hts x hx), va_Nw.of rfl (hsw _ (by decide +kernel)), va_Nw.of rfl (hsw _ (by decide +kernel)), va_Nw.of rfl (hsw _ (by decide +kernel))⟩, fun x hx y hy => ?_, va_AO.of (hsw _ (by decide +kernel)), hD, fun _ _ => Iff.rfl⟩
  · have h0 := hts _ (sx_pm_ok sx_z77b _ (List.mem_map.mpr ⟨q, hq, rfl⟩))
    have h1 : (Cond.stringRef q.1 q.2.1 q.2.2).before #[] s = true := h0
    cases hc : s.vm.findClass q.1 with
    | none => simp [Cond.before, Cond.holds, Cond.value, hc] at h1
    | some cur =>
      obtain ⟨k, cf, i, a, -, -, -, -, -, hev⟩ := Cond.stringRef_spec hc h1
      exact ⟨a, vk_R.of h1 hev⟩
  · obtain ⟨cx, cx', q1, q1', q2⟩ := Cond.castable_spec (sx_cself hts x hx)
    obtain ⟨cy, cy', q3, q3', q4⟩ := Cond.castable_spec (sx_cself hts y hy)
    refine ⟨cx, cy, q1, q3, ?_⟩
    by_cases hxy : x = y
    · subst hxy
      cases q1.symm.trans q1'
      cases q1.symm.trans q3
      exact ⟨fun _ => rfl, fun _ => q2⟩
    · have hn := List.all_eq_true.mp (List.all_eq_true.mp sx_ncast x hx) y hy
      rw [Bool.or_eq_true, decide_eq_true_eq, decide_eq_true_eq] at hn
      have hn := hfl _ (hn.resolve_left hxy)
      refine ⟨fun h => ?_, fun h => absurd h hxy⟩
      exfalso
      simp [Cond.before, Cond.holds, Cond.value, q1, q3, h] at hn
theorem sx_Sx_start (hts : ∀ w ∈ lw_tbl, w.before #[Value.ref b] s = true) (hgv : (Jvm.Cond.and given_1 narrow_1).before #[Value.ref b] s = true) : sx_Sx (fun q => s.heap.size ≤ q) s s.heap := by
  have hfl := flat_of_before _ hgv
  have one : ∀ n d, Cond.laysStatic Bundle.tN n d ∈ sx_sw → (Cond.isRef (.static Bundle.tN n d)).before #[Value.ref b] s = true → sx_Z1 n d (fun q => s.heap.size ≤ q) s s.heap := by
    intro n d hw hr
    obtain ⟨c, k, i, f, a, cell, hc, hi, hst, hsa, hcell, hss, hcls, hlt, hty⟩ := Cond.laysStatic_spec (hts _ (sx_pm_ok sx_zsw _ hw))
    obtain ⟨v, hv, hvr⟩ := Cond.isRef_spec hr
    have hsl : cell.slots[f.slot]? = some cell.slots[f.slot] := Array.getElem?_eq_getElem hlt
    have hev := Term.static_eval (args := #[Value.ref b]) (first := s) (o := none) (idx := []) hi hst hsa hcell hss hsl
    cases hv.symm.trans hev
    exact ⟨c, k, i, f, a, cell, ⟨_, hvr⟩, hc, hi, hst, hsa, hcell, hss, hcls, hlt, hty, hsl, fun h => by have := (Array.getElem?_eq_some_iff.mp hcell).1; exact absurd this (Nat.not_lt.mpr h)⟩
  exact ⟨one _ _ (by decide +kernel) (hfl _ sx_nst.1), one _ _ (by decide +kernel) (hfl _ sx_nst.2)⟩
end SXStart
