/-! sx: a field is written -/
section SXPut
variable {N : Nat} {ih : sx_ih} {w d mi pc n cs ss : Nat} {lst : List sx_I} {L S : List Nat} {h : sx_H} {sy : sx_Y} {outs : List sx_O}
variable {p : Program} {l : Launch} {e : Env} {R : Room} {s : State} {m : MethodId} {args : Array Value} {below : List Frame} {meth : Method} {c : Code} {D : va_G} {K : ClassId → FieldType → Prop} {b : Nat → Nat} {xs : Nat → Int32} {A : Nat → Prop} {q : sx_M}
variable {ad : List Nat} {rs : List Int32} {ls : Array Slot} {st : List Value} {H : Heap} {locs : List Loc} {cells slots : Nat} {Q : State → Prop}
theorem sx_E.put {c' : Nat × Nat} {ci j v : Nat} {fs : List Value} {x : Value} (hE : sx_E K b ad rs c' (.inr (ci, fs))) (hv : sx_V b ad rs v x) (hv72 : v < 2 ^ 72) : sx_E K b ad rs (c'.1, sx_set c'.2 j v) (.inr (ci, fs.set j x)) := by
  rcases hE with ⟨ci', fs', e1, e2, ⟨C, e3, e4⟩, e5, e6⟩ | ⟨cA, f, e1, -⟩ | ⟨cA, f, e1, -⟩ | ⟨cA, f, e1, -⟩
  · cases e1
    refine Or.inl ⟨ci, _, rfl, e2, ⟨C, e3, by rw [List.length_set]; exact e4⟩, by rw [List.length_set]; exact e5, fun i u hi => ?_⟩
    by_cases hij : i = j
    · subst hij
      have hl : i < fs.length := by have := (List.getElem?_eq_some_iff.mp hi).1; rw [List.length_set] at this; exact this
      rw [List.getElem?_set_self hl] at hi
      cases hi
      show sx_V b ad rs (sx_get (sx_set c'.2 i v) i) x
      rw [sx_get_set hv72]
      exact hv
    · rw [List.getElem?_set_ne (Ne.symm hij)] at hi
      show sx_V b ad rs (sx_get (sx_set c'.2 j v) i) u
      rw [sx_get_set_ne hv72 hij]
      exact e6 i u hi
  · cases e1
  · cases e1
  · cases e1
theorem sx_E.iput {c' : Nat × Nat} {j v : Nat} {cA : ClassId} {k : Nat} {f : Nat → Int32} {x : Int32} (hE : sx_E K b ad rs c' (.inl (cA, k, .inl f))) (hv : sx_V b ad rs v (.int x)) (hv72 : v < 2 ^ 72) : sx_E K b ad rs (c'.1, sx_set c'.2 j v) (.inl (cA, k, .inl (upd f j x))) := by
  rcases hE with ⟨ci', fs', e1, -⟩ | ⟨cA', f', e1, e2, e3, e4⟩ | ⟨cA, f, e1, -⟩ | ⟨cA, f, e1, -⟩
  · cases e1
  · cases e1
    refine Or.inr (Or.inl ⟨cA, _, rfl, e2, e3, fun i hi => ?_⟩)
    by_cases hij : i = j
    · subst hij
      show sx_V b ad rs (sx_get (sx_set c'.2 i v) i) _
      rw [sx_get_set hv72, pk_us]
      exact hv
    · show sx_V b ad rs (sx_get (sx_set c'.2 j v) i) _
      rw [sx_get_set_ne hv72 hij, pk_un hij]
      exact e4 i hi
  · cases e1
  · cases e1
theorem sx_E.lput {c' : Nat × Nat} {j v : Nat} {cA : ClassId} {k : Nat} {f : Nat → Int64} (hE : sx_E K b ad rs c' (.inl (cA, k, .inr (.inl f)))) (hv : v % 8 = 4) (hv72 : v < 2 ^ 72) : sx_E K b ad rs (c'.1, sx_set c'.2 j (v - 4)) (.inl (cA, k, .inr (.inl (vp_updL f j (Int64.ofNat (v / 8)))))) := by
  rcases hE with ⟨ci', fs', e1, -⟩ | ⟨cA', f', e1, -⟩ | ⟨cA', f', e1, e2, e3, e4⟩ | ⟨cA, f, e1, -⟩
  · cases e1
  · cases e1
  · cases e1
    have hv73 : v - 4 < 2 ^ 72 := by omega
    refine Or.inr (Or.inr (Or.inl ⟨cA, _, rfl, e2, e3, fun i hi => ?_⟩))
    by_cases hij : i = j
    · subst hij
      show sx_get (sx_set c'.2 i (v - 4)) i % 8 = 0 ∧ vp_updL f i _ i = Int64.ofNat (sx_get (sx_set c'.2 i (v - 4)) i / 8)
      rw [sx_get_set hv73, pk_uLs]
      exact ⟨by omega, by rw [show (v - 4) / 8 = v / 8 by omega]⟩
    · show sx_get (sx_set c'.2 j (v - 4)) i % 8 = 0 ∧ vp_updL f j _ i = Int64.ofNat (sx_get (sx_set c'.2 j (v - 4)) i / 8)
      rw [sx_get_set_ne hv73 hij, pk_uLn hij]
      exact e4 i hi
  · cases e1
theorem sx_E.qput {c' : Nat × Nat} {j v a : Nat} {cA : ClassId} {k : Nat} {f : Nat → Option Nat} (hE : sx_E K b ad rs c' (.inl (cA, k, .inr (.inr (.inr (.inr f)))))) (hv : v % 8 = 2) (ha : ad[v / 8]? = some a) (hv72 : v < 2 ^ 72) : sx_E K b ad rs (c'.1, sx_set c'.2 j v) (.inl (cA, k, .inr (.inr (.inr (.inr (va_up f j (some a))))))) := by
  rcases hE with ⟨ci', fs', e1, -⟩ | ⟨cA', f', e1, -⟩ | ⟨cA', f', e1, -⟩ | ⟨cA', f', e1, e2, e3, e4⟩
  · cases e1
  · cases e1
  · cases e1
  · cases e1
    refine Or.inr (Or.inr (Or.inr ⟨cA, _, rfl, e2, e3, fun i hi => ?_⟩))
    by_cases hij : i = j
    · subst hij
      right
      show ∃ q, va_up f i (some a) i = some q ∧ sx_get (sx_set c'.2 i v) i % 8 = 2 ∧ ad[sx_get (sx_set c'.2 i v) i / 8]? = some q
      rw [sx_get_set hv72]
      exact ⟨a, by simp [va_up], hv, ha⟩
    · show (sx_get (sx_set c'.2 j v) i = 0 ∧ va_up f j (some a) i = none) ∨ ∃ q, va_up f j (some a) i = some q ∧ sx_get (sx_set c'.2 j v) i % 8 = 2 ∧ ad[sx_get (sx_set c'.2 j v) i / 8]? = some q
      rw [sx_get_set_ne hv72 hij, show va_up f j (some a) i = f i by simp [va_up, hij]]
      exact e4 i hi
theorem sx_fit_ref {ty : FieldType} {a : Nat} (h : (∃ x, ty = .object x) ∨ ∃ x, ty = .array x) : narrow ty (.ref a) = .ref a ∧ fits ty (.ref a) = true := by
  rcases h with ⟨x, rfl⟩ | ⟨x, rfl⟩ <;> exact ⟨rfl, rfl⟩
theorem sx_fit_bool {v : Nat} (h : v ≤ 1) : narrow .boolean (.int (Int32.ofNat v)) = .int (Int32.ofNat v) ∧ fits .boolean (.int (Int32.ofNat v)) = true := by
  rcases (show v = 0 ∨ v = 1 by omega) with rfl | rfl <;> decide +kernel
theorem sx_fty_I : sx_fty "I" = .int := by decide +kernel
theorem sx_fty_Z : sx_fty "Z" = .boolean := by decide +kernel
theorem sx_sPut (IH : sx_Ok N ih) (hC : sx_Cx p e R s m meth c D K b N xs A mi d q) (hA : sx_At R s c D K b N xs A ad rs cells slots locs L S h n sy cs ss ls st H) (hL : sx_Ls p l e R s m args below meth c D K b N xs A Q ad rs lst) (hQ : ∀ o ∈ outs, ∀ t, sx_En R s below D K b A ad rs o t → Q t)
    (hk : sx_k10 q pc w = true) (hr : sx_oPut ih w d mi (sx_mt mi).1 lst pc L S h n sy cs ss = some outs) : W p l e R s m args below meth c H locs cells slots Q (F0 m pc ls st) := by
  obtain ⟨-, hx, -, hb, hml, -, -, -, hown, -, hT, -⟩ := id hC
  obtain ⟨hLc, hSt, hrest⟩ := id hA
  obtain ⟨-, -, -, -, -, -, hnm, -⟩ := id hC
  unfold sx_oPut at hr
  cases S with
  | nil => cases hr
  | cons v r =>
  cases r with
  | nil => cases hr
  | cons u r2 =>
  obtain ⟨x, st', rfl, hv, hSt'⟩ := hSt.cons
  obtain ⟨xo, st2, rfl, ho, hSt2⟩ := hSt'.cons
  rw [sx_p1_cons, sx_p1_cons] at hr
  obtain ⟨hc, hr⟩ := sx_if_ok hr
  obtain ⟨c1, -⟩ := sx_and_ok hc
  simp only [sx_rdK_eq, sx_fo_eq, sx_wrK_eq] at hr
  obtain ⟨a, ha, rfl⟩ := ho.t2 (sx_beq c1)
  unfold sx_k10 at hk
  obtain ⟨t, ht, hk⟩ := sx_oa_ok hk
  simp only [Bool.and_eq_true, decide_eq_true_eq] at hk
  obtain ⟨hcls, hd, hpf⟩ := hk
  cases h0 : Nat.beq (sx_slot (Nat.mod (sx_rd h (sx_pl u)).1 256) (sx_wa w)) 0 with
  | true => rw [h0] at hr; cases hr
  | false =>
  rw [h0, sx_if_f] at hr
  obtain ⟨hty, hr⟩ := sx_if_ok hr
  obtain ⟨h72, hr⟩ := sx_if_ok hr
  have h72 : v < 2 ^ 72 := sx_blt h72
  have hs0 : sx_slot ((sx_rd h (u / 8)).1 % 256) (sx_wa w) ≠ 0 := sx_beq_f h0
  obtain ⟨hY, hG, hS, hxs, hrm⟩ := id hrest
  obtain ⟨ws, e, hP, hD, g3, g4, g5, g6, he, hE⟩ := hG.at ha
  obtain ⟨C, hC1, j0, j1, f1, f2, f3, f4⟩ := sx_field ht hs0
  have hci : (sx_rd h (u / 8)).1 % 256 < 12 := by rw [← sx_fl_len.2]; exact (List.getElem?_eq_some_iff.mp hC1).1
  have hpf1 := List.all_eq_true.mp hpf _ (List.mem_range.mpr hci)
  dsimp only at hpf1
  rw [if_neg hs0] at hpf1
  obtain ⟨C', hC1', hpf1⟩ := sx_oa_ok hpf1
  cases hC1.symm.trans hC1'
  have hE0 := hE
  rcases hE with ⟨ci, fs, rfl, e2, ⟨C', e3, e3b⟩, e4, e5⟩ | ⟨cA, f, -, e2, -⟩ | ⟨cA, f, -, e2, -⟩ | ⟨cA, f, -, e2, -⟩
  · rw [e2] at hC1
    cases hC1.symm.trans e3
    rw [← e2] at e3
    obtain ⟨C0, C1, C2⟩ := C
    dsimp only at j1 f1 f2 f3 f4 hpf1 e3b
    have hin := sx_cls_in e3
    subst e2
    generalize hsl : sx_slot ((sx_rd h (u / 8)).1 % 256) (sx_wa w) = sl at *
    have hfit : narrow (sx_fty (C1 (sl % 32 - 1)).2.2.1) x = x ∧ fits (sx_fty (C1 (sl % 32 - 1)).2.2.1) x = true := by
      have hty : sx_if (Nat.beq (Nat.div sl 32) 0) (Nat.ble (sx_tg v) 1) (sx_if (Nat.beq (Nat.div sl 32) 1) (sx_and (Nat.beq (sx_tg v) 0) (Nat.ble (sx_pl v) 1)) (Nat.beq (sx_tg v) 2)) = true := by rw [← hsl]; exact hty
      by_cases q0 : sl / 32 = 0
      · rw [if_pos q0] at f4
        rw [sx_beq_t (show Nat.div sl 32 = 0 from q0), sx_if_t] at hty
        obtain ⟨z, rfl⟩ := hv.i (sx_ble hty)
        rw [f4, sx_fty_I]
        exact ⟨vp_nar_int z, rfl⟩
      · rw [if_neg q0] at f4
        rw [sx_beq_e (show ¬ Nat.div sl 32 = 0 from q0), sx_if_f] at hty
        by_cases q1 : sl / 32 = 1
        · rw [if_pos q1] at f4
          rw [sx_beq_t (show Nat.div sl 32 = 1 from q1), sx_if_t] at hty
          obtain ⟨t1, t2⟩ := sx_and_ok hty
          rw [hv.t0 (sx_beq t1), f4, sx_fty_Z]
          exact sx_fit_bool (sx_ble t2)
        · rw [if_neg q1] at f4
          rw [sx_beq_e (show ¬ Nat.div sl 32 = 1 from q1), sx_if_f] at hty
          obtain ⟨z, -, rfl⟩ := hv.t2 (sx_beq hty)
          exact sx_fit_ref f4
    have kk : ∀ (H1 : Heap) (locs1 : List Loc), va_P D sx_classes (ws.set (u / 8) (a, .inr ((sx_rd h (u / 8)).1 % 256, fs.set (sl % 32 - 1) x))) H1 → va_D A (ws.set (u / 8) (a, .inr ((sx_rd h (u / 8)).1 % 256, fs.set (sl % 32 - 1) x))) → va_S A s.heap H1 locs1 → W p l e R s m args below meth c H1 locs1 cells slots Q (F0 m (pc + 3) ls st2) := by
      intro H1 locs1 hP1 hD1 hS1
      refine sx_go IH hr hC ⟨hLc, hSt2, hY, ?_, hS1, hxs, hrm⟩ hL List.prefix_rfl List.prefix_rfl (fun _ h => h) hQ
      rw [show sx_slot (Nat.mod (sx_rd h (sx_pl u)).1 256) (sx_wa w) = sl from hsl]
      exact sx_G.set g3 g4 g5 g6 he hP1 hD1 (sx_E.put hE0 hv h72)
    have hj : sl % 32 - 1 < fs.length := by rw [← e3b]; exact j1
    by_cases hfin : (C1 (sl % 32 - 1)).2.2.2 = true
    · rw [if_pos hfin] at hpf1
      simp only [Bool.and_eq_true, decide_eq_true_eq] at hpf1
      exact va_putF hx hb (hT.1 args) hin.1 (fun k => sx_fty (C1 k).2.2.1) hin.2.1 hin.2.2.2.2 hown hT.2.2.2.2.2.1 hP hD hS (u / 8) he e3 _ j1 (index := t.2.1) (ref := t.2.2.1) (by rw [f1, f2, ← hcls]; exact hT.1 args _ (sx_fl_in ht)) (by rw [f1, f2]; exact sx_same_ok hT f3) hfin (by rw [hnm]; exact hpf1.1) hpf1.2 (hin.2.1 _ j1) hfit.1 hfit.2 hj (sx_dc_ok hd) kk
    · have hfin : (C1 (sl % 32 - 1)).2.2.2 = false := by simpa using hfin
      exact va_put hx hb (hT.1 args) hin.1 (fun k => sx_fty (C1 k).2.2.1) hin.2.1 hin.2.2.2.2 hown hT.2.2.2.2.2.1 hP hD hS (u / 8) he e3 _ j1 (index := t.2.1) (ref := t.2.2.1) (by rw [f1, f2, ← hcls]; exact hT.1 args _ (sx_fl_in ht)) (by rw [f1, f2]; exact sx_same_ok hT f3) hfin (hin.2.1 _ j1) hfit.1 hfit.2 hj (sx_dc_ok hd) kk
  · omega
  · omega
  · omega
end SXPut
