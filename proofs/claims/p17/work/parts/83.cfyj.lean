/-! fx: the law's house case -/
section FYJ
variable {W : ax_W} {r d mi pc : Nat} {L S rest : List Nat} {g : Nat → Nat → Int} {Q : Nat → Nat → (Nat → Nat → Int) → Prop}
/-- a call that may catch a throws; b are left behind it -/
theorem fx_callW {a b r1 r2 mj pc' : Nat} {av Lj : List Nat} {dj : Nat} (hab : a + b ≤ W.lim) (hr1 : r1 ≤ r) (hr2 : a + r2 ≤ r) (hh : sx_wh (sx_ft (sx_mt mi).1 pc) = 0)
    (hb : ∀ (ih : sx_ih) D h cs ss, HV h g → sx_body ih W.N (sx_ft (sx_mt mi).1 pc) D mi (sx_mt mi).1 [] pc L S h 160 W.sy cs ss = sx_call ih D mi (sx_mt mi).1 [] pc L h 160 W.sy cs ss av rest mj)
    (hc : sx_and (Nat.blt 0 (sx_mt mj).1) (Nat.ble (Nat.add (Nat.mul 2 (List.length rest)) (sx_im (sx_mt mj).2)) 89) = true) (hd : dj + 1 ≤ d) (hp : pc + 3 = pc')
    (hx : sx_xp av (sx_im (sx_mt mj).2) = some Lj) (k : fx (fWl W a) r1 dj mj 0 Lj [] g (fun k v g' => k = 1 ∧ fx (fWl W b) r2 d mi pc' L (v :: rest) g' Q)) : fx W r d mi pc L S g Q := fun D h cs ss hD hv h1 h2 => by
  obtain ⟨D', rfl⟩ : ∃ D', D = D' + 1 := ⟨D - 1, by omega⟩
  have hb' : ∀ ih : sx_ih, sx_body ih W.N (sx_ft (sx_mt mi).1 pc) (D' + 1) mi (sx_mt mi).1 [] pc L S h 160 W.sy cs ss = Option.rec none (fun outs => sx_cont ih (D' + 1) mi (sx_mt mi).1 [] pc L rest (sx_ihd (sx_mt mi).2) outs) (ih D' mj (sx_mt mj).1 [] false 0 Lj [] h 160 W.sy cs ss) := fun ih => by
    rw [hb ih (D' + 1) h cs ss hv]
    show sx_mtK mj (fun cj fj => sx_mtK mi (fun _ f =>
      sx_if (sx_and (sx_and (Nat.blt 0 cj) (Nat.ble (Nat.add (Nat.mul 2 (List.length rest)) (sx_im fj)) 89)) (sx_and (Nat.ble cs 600002) (Nat.ble ss 7302232)))
        (Option.rec none (fun Lj => Option.rec none (fun outs => sx_cont ih (D' + 1) mi (sx_mt mi).1 [] pc L rest (sx_ihd f) outs)
          (ih D' mj cj [] false 0 Lj [] h 160 W.sy cs ss)) (sx_xp av (sx_im fj))) none)) = _
    rw [sx_mtK_eq, sx_mtK_eq, hc, cx_at, show Nat.ble cs 600002 = true from Nat.ble_eq.mpr (by omega), show Nat.ble ss 7302232 = true from Nat.ble_eq.mpr (by omega), cx_at, sx_if_t, hx]
  refine cx_call rfl hh hb' ?_
  obtain ⟨co, ev, a1, a2, g', hv', ⟨kq1, kq2⟩, b1, -⟩ := k D' h cs ss (by omega) hv (by omega) (by omega)
  refine ⟨co, ev, ?_⟩
  obtain ⟨kd, cv, ch, cn, csy, ccs, css⟩ := co
  have a1 : cn = 160 := a1
  have a2 : csy = W.sy := a2
  have kq1 : kd = 1 := kq1
  subst a1 a2 kq1
  subst hp
  obtain ⟨e1, e2⟩ := b1 (Nat.le_refl 1)
  have e1 : ccs ≤ cs + a := e1
  have e2 : css ≤ ss + 6 * a := e2
  obtain ⟨o, ⟨f0, hf⟩, u1, u2, u3, u4, u5, u6, u7⟩ := kq2 (D' + 1) ch ccs css hD hv' (by omega) (by omega)
  have u6 : o.1 ≤ 1 → o.2.2.2.2.2.1 ≤ ccs + b ∧ o.2.2.2.2.2.2 ≤ css + 6 * b := u6
  have u7 : 1 < o.1 → 1 ≤ r2 ∧ o.2.2.2.2.2.1 ≤ ccs + 1 + b ∧ o.2.2.2.2.2.2 ≤ css + 6 + 6 * b := u7
  exact ⟨o, ⟨f0, fun f hle => cx_app1 _ _ (hf f hle)⟩, u1, u2, u3, u4, u5, fun t => by have := u6 t; omega, fun t => by have := u7 t; omega⟩
/-- house(x, out): the answer's kind; what the class did -/
theorem sp_whouse {T : Int → Int} {E : Int} (hl : 1 ≤ W.lim) (hT : ∀ k : Int, 0 ≤ k → k < 400 → g 2 k.toNat = T k ∧ 0 ≤ T k ∧ T k ≤ 255) (hE : g 1 1 = E) (hE0 : 0 ≤ E) (hE1 : E ≤ 400) (hp0 : 0 ≤ g 3 4) (hp1 : g 3 4 ≤ 8) (hd0 : 0 ≤ g 3 5) (hd1 : g 3 5 ≤ 6) (ht0 : 0 ≤ g 3 6) (ht1 : g 3 6 ≤ 12)
    (k1 : ∀ q, pText T E (g 3 4) (g 3 5) = Sum.inl q → ∀ g', frc g g' → g' 1 1 = 0 → g' 0 18 = q → Q 1 (fI 1) g')
    (k2 : ∀ us, pText T E (g 3 4) (g 3 5) = Sum.inr us → g 3 6 = 12 → ∀ g', frc g g' → g' 1 1 = 0 → g' 0 18 = -1 → Q 1 (fI 2) g')
    (k3 : ∀ us, pText T E (g 3 4) (g 3 5) = Sum.inr us → g 3 6 ≠ 12 → ∀ A, (∀ gm, RHx 3 g gm → 0 ≤ gm 149 3 → gm 149 3 ≤ 8 → 0 ≤ gm 149 4 → gm 149 4 ≤ 6 → RHx 29 A (apLs T us gm)) → ∀ g', frd g g' → g' 1 1 = 0 → g' 0 18 = -1 → g' 0 16 = 0 → g' 3 6 = g 3 6 + 1 → (∀ j, 4 ≤ j → j ≤ 9 → j ≠ 6 → g' 3 j = A 29 j) → (∀ i j, 1 ≤ i → i ≤ 4 → g' (3 + i) j = A (29 + i) j) → Q 1 (fI 0) (fu g' 159 0 ((fJ (g 3 6 + 1) - 4 : Nat) : Int))) : fx W 1 11 69 0 [2, 1274, 7] [] g Q := by
  refine fx_la 1 1 (v := 1274) (by decide +kernel) rfl (by decide +kernel) ?_
  refine fx_ci (0) 2 (by decide +kernel) ?_
  refine fx_la 0 3 (v := 2) (by decide +kernel) rfl (by decide +kernel) ?_
  obtain ⟨e1, e2⟩ := f_qm_ok (W := W) (L := [2, 1274, 7]) (g := g) (S := [2, fI 0, 1274]) (rest := [fI 0, 1274]) (mi := 69) (pc := 3) (mj := 70) (n := 1) (op := 21) (a := 2) (av' := []) (by decide +kernel) (by decide +kernel) (fun K => rfl) (fun t => absurd t (by decide))
  refine fx_callH (l := 0) (r := 0) (by omega) e1 e2 (by decide +kernel) (dj := 10) (by decide) (by decide +kernel) (pc' := 6) rfl (Lj := [2, 7]) (by decide +kernel) ?_
  refine sp_chouse (Nat.le_refl 1) hT hE hE0 hE1 hp0 hp1 hd0 hd1 ht0 ht1 (fun q t g' f1 f2 f3 => ?_) (fun us t t2 g' f1 f2 f3 => ?_) (fun us t t2 A f0 g' f1 f2 f3 f4 f5 f6 f7 => ?_)
  · refine fKH2 0 12 2 (by decide +kernel) (Or.inr (f_n4p (v := 1274) rfl (by decide))) rfl ?_
    dsimp only [List.set]
    exact fx_ci 1 13 (by decide +kernel) (fx_ret (by decide +kernel) (k1 q t g' f1 f2 f3))
  · refine fKH2 1 15 2 (by decide +kernel) (Or.inr (f_n4p (v := 1274) rfl (by decide))) rfl ?_
    dsimp only [List.set]
    exact fx_ci 2 16 (by decide +kernel) (fx_ret (by decide +kernel) (k2 us t t2 g' f1 f2 f3))
  · refine fKH1 ?_
    have kk := k3 us t t2 A f0 g' f1 f2 f3 f4 f5 f6 f7
    refine fx_i2l 7 (by decide +kernel) rfl ?_
    refine fx_las 1274 159 1 8 (by decide +kernel) rfl (by omega) (by omega) (by decide +kernel) (fJ_ok _).1 (fJ_ok _).2 ?_
    exact fx_go 17 (by decide +kernel) (fx_ci 0 18 (by decide +kernel) (fx_ret (by decide +kernel) kk))
end FYJ
