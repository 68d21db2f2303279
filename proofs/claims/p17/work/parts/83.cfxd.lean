/-! fx: calls -/
/-- what must hold behind a call, of its end -/
def fK (W : ax_W) (r d mi pc : Nat) (L rest : List Nat) (Q : Nat → Nat → (Nat → Nat → Int) → Prop) : Nat → Nat → (Nat → Nat → Int) → Prop := fun k v g' => (k = 0 → fx W r d mi pc L rest g' Q) ∧ (k = 1 → fx W r d mi pc L (v :: rest) g' Q) ∧ (1 < k → Q k 0 g')
section FXD
variable {W : ax_W} {r d mi pc : Nat} {L S rest : List Nat} {g : Nat → Nat → Int} {Q : Nat → Nat → (Nat → Nat → Int) → Prop}
theorem fK0 {v : Nat} (h : fx W r d mi pc L rest g Q) : fK W r d mi pc L rest Q 0 v g := ⟨fun _ => h, fun t => absurd t (by decide), fun t => absurd t (by decide)⟩
theorem fK1 {v : Nat} (h : fx W r d mi pc L (v :: rest) g Q) : fK W r d mi pc L rest Q 1 v g := ⟨fun t => absurd t (by decide), fun _ => h, fun t => absurd t (by decide)⟩
theorem fK2 {k v : Nat} (h : Q (2 + k) 0 g) : fK W r d mi pc L rest Q (2 + k) v g := ⟨fun t => by omega, fun t => by omega, fun _ => h⟩
theorem f_xp : ∀ {av : List Nat} {m : Nat}, (∀ v ∈ av, v % 8 ≠ 4) → av.length ≤ m → sx_xp av m = some (av ++ sx_pd (m - av.length))
  | [], m, _, _ => rfl
  | v :: av, 0, _, h => by cases h
  | v :: av, m + 1, h4, h => by
    have hb : sx_xp (v :: av) (m + 1) = sx_if (Nat.beq (sx_tg v) 4) (Nat.rec none (fun n2 _ => Option.map (fun t => v :: 7 :: t) (sx_xp av n2)) m) (Option.map (fun t => v :: t) (sx_xp av m)) := rfl
    have h : av.length + 1 ≤ m + 1 := h
    rw [hb, sx_beq_e (show ¬ sx_tg v = 4 from h4 v List.mem_cons_self), sx_if_f, f_xp (fun u hu => h4 u (List.mem_cons_of_mem _ hu)) (by omega)]
    show some (v :: (av ++ sx_pd (m - av.length))) = some (v :: av ++ sx_pd (m + 1 - (av.length + 1)))
    rw [show m + 1 - (av.length + 1) = m - av.length by omega]
    rfl
theorem fx_call {mj pc' : Nat} {av Lj : List Nat} {dj : Nat} (hh : sx_wh (sx_ft (sx_mt mi).1 pc) = 0)
    (hb : ∀ (ih : sx_ih) D h cs ss, HV h g → sx_body ih W.N (sx_ft (sx_mt mi).1 pc) D mi (sx_mt mi).1 [] pc L S h 160 W.sy cs ss = sx_call ih D mi (sx_mt mi).1 [] pc L h 160 W.sy cs ss av rest mj)
    (hc : sx_and (Nat.blt 0 (sx_mt mj).1) (Nat.ble (Nat.add (Nat.mul 2 (List.length rest)) (sx_im (sx_mt mj).2)) 89) = true) (hd : dj + 1 ≤ d) (hi : sx_ihd (sx_mt mi).2 = 0) (hp : pc + 3 = pc')
    (hx : sx_xp av (sx_im (sx_mt mj).2) = some Lj) (k : fx (fWl W 0) r dj mj 0 Lj [] g (fK W r d mi pc' L rest Q)) : fx W r d mi pc L S g Q := fun D h cs ss hD hv h1 h2 => by
  obtain ⟨D', rfl⟩ : ∃ D', D = D' + 1 := ⟨D - 1, by omega⟩
  have hb' : ∀ ih : sx_ih, sx_body ih W.N (sx_ft (sx_mt mi).1 pc) (D' + 1) mi (sx_mt mi).1 [] pc L S h 160 W.sy cs ss = Option.rec none (fun outs => sx_cont ih (D' + 1) mi (sx_mt mi).1 [] pc L rest 0 outs) (ih D' mj (sx_mt mj).1 [] false 0 Lj [] h 160 W.sy cs ss) := fun ih => by
    rw [hb ih (D' + 1) h cs ss hv]
    show sx_mtK mj (fun cj fj => sx_mtK mi (fun _ f =>
      sx_if (sx_and (sx_and (Nat.blt 0 cj) (Nat.ble (Nat.add (Nat.mul 2 (List.length rest)) (sx_im fj)) 89)) (sx_and (Nat.ble cs 600002) (Nat.ble ss 7302232)))
        (Option.rec none (fun Lj => Option.rec none (fun outs => sx_cont ih (D' + 1) mi (sx_mt mi).1 [] pc L rest (sx_ihd f) outs)
          (ih D' mj cj [] false 0 Lj [] h 160 W.sy cs ss)) (sx_xp av (sx_im fj))) none)) = _
    rw [sx_mtK_eq, sx_mtK_eq, hc, cx_at, show Nat.ble cs 600002 = true from Nat.ble_eq.mpr (by omega), show Nat.ble ss 7302232 = true from Nat.ble_eq.mpr (by omega), cx_at, sx_if_t, hx, hi]
  refine cx_call rfl hh hb' ?_
  obtain ⟨co, ev, a1, a2, g', hv', kq, b1, b2⟩ := k D' h cs ss (by omega) hv h1 h2
  refine ⟨co, ev, ?_⟩
  obtain ⟨kd, cv, ch, cn, csy, ccs, css⟩ := co
  have a1 : cn = 160 := a1
  have a2 : csy = W.sy := a2
  subst a1 a2
  by_cases c0 : kd = 0
  · subst c0
    obtain ⟨e1, e2⟩ := b1 (Nat.zero_le 1)
    have e1 : ccs ≤ cs + 0 := e1
    have e2 : css ≤ ss + 6 * 0 := e2
    subst hp
    obtain ⟨o, ⟨f0, hf⟩, u1, u2, u3, u4, u5, u6, u7⟩ := kq.1 rfl (D' + 1) ch ccs css hD hv' (by omega) (by omega)
    exact ⟨o, ⟨f0, fun f hle => cx_app1 _ _ (hf f hle)⟩, u1, u2, u3, u4, u5, fun t => by have := u6 t; omega, fun t => by have := u7 t; omega⟩
  · by_cases c1 : kd = 1
    · subst c1
      obtain ⟨e1, e2⟩ := b1 (Nat.le_refl 1)
      have e1 : ccs ≤ cs + 0 := e1
      have e2 : css ≤ ss + 6 * 0 := e2
      subst hp
      obtain ⟨o, ⟨f0, hf⟩, u1, u2, u3, u4, u5, u6, u7⟩ := kq.2.1 rfl (D' + 1) ch ccs css hD hv' (by omega) (by omega)
      exact ⟨o, ⟨f0, fun f hle => cx_app1 _ _ (hf f hle)⟩, u1, u2, u3, u4, u5, fun t => by have := u6 t; omega, fun t => by have := u7 t; omega⟩
    · have c2 : 1 < kd := by omega
      obtain ⟨e0, e1, e2⟩ := b2 c2
      refine ⟨(kd, 0, ch, 160, W.sy, ccs, css), ⟨0, fun f _ => ?_⟩, rfl, rfl, g', hv', kq.2.2 c2, fun t => absurd t (show ¬ kd ≤ 1 by omega), fun _ => ⟨e0, (by have e1 : ccs ≤ cs + 1 + 0 := e1; show ccs ≤ cs + 1 + W.lim; omega), (by have e2 : css ≤ ss + 6 + 6 * 0 := e2; show css ≤ ss + 6 + 6 * W.lim; omega)⟩⟩
      show sx_app (sx_if (Nat.beq kd 0) _ (sx_if (Nat.beq kd 1) _ (sx_thr _ _ _ _ _ _ _ 0 (Nat.sub kd 2) _ _ _ _ _))) (some []) = _
      rw [sx_beq_e c0, sx_if_f, sx_beq_e c1, sx_if_f]
      apply cx_app1
      unfold sx_thr
      rw [sx_beq_t rfl, sx_if_t]
      show some [(2 + (kd - 2), 0, ch, 160, W.sy, ccs, css)] = _
      rw [show 2 + (kd - 2) = kd by omega]
/-- the method called, how many arguments, the locals behind them, of how many calls it needs room for -/
noncomputable def f_qi (mi pc mj n pc' : Nat) (P : List Nat) : Bool := Nat.beq (sx_ia (sx_mt mj).2) n && (Nat.blt 0 (sx_mt mj).1 && (Nat.beq (sx_ihd (sx_mt mi).2) 0 && (Nat.beq (Nat.add pc 3) pc' && (Nat.ble n (sx_im (sx_mt mj).2) && (sx_pd (Nat.sub (sx_im (sx_mt mj).2) n) == P)))))
theorem f_qi_ok {mj n pc' : Nat} {P : List Nat} (q : f_qi mi pc mj n pc' P = true) : sx_ia (sx_mt mj).2 = n ∧ Nat.blt 0 (sx_mt mj).1 = true ∧ sx_ihd (sx_mt mi).2 = 0 ∧ pc + 3 = pc' ∧ n ≤ sx_im (sx_mt mj).2 ∧ sx_pd (sx_im (sx_mt mj).2 - n) = P := by
  obtain ⟨q1, q2⟩ := f_and q
  obtain ⟨q2, q3⟩ := f_and q2
  obtain ⟨q3, q4⟩ := f_and q3
  obtain ⟨q4, q5⟩ := f_and q4
  obtain ⟨q5, q6⟩ := f_and q5
  exact ⟨sx_beq q1, q2, sx_beq q3, sx_beq q4, sx_ble q5, eq_of_beq q6⟩
/-- which method: op 22, 23 (no or a fixed object), 21, 40 (by the object's kind), 39 (of a String) -/
noncomputable def f_qm (mi pc mj op a : Nat) : Bool :=
  if op = 22 then fq mi pc 22 && Nat.beq (sx_wc (fw mi pc)) mj
  else if op = 21 then fq mi pc 21 && (Nat.beq (sx_wc (fw mi pc)) mj && (Nat.beq (sx_tg a) 2 && (Nat.blt (sx_pl a) 160 && Nat.beq (Nat.mod (Nat.shiftRight (sx_wb (fw mi pc)) (Nat.mod (ax_cl (sx_pl a)).1 256)) 2) 1)))
  else if op = 23 then fq mi pc 23 && (Nat.beq (sx_wc (fw mi pc)) mj && (Nat.beq (sx_tg a) 2 && Nat.blt (sx_pl a) 160))
  else if op = 39 then fq mi pc 39 && (Nat.beq (sx_wc (fw mi pc)) mj && sx_isS a)
  else if op = 40 then fq mi pc 40 && (Nat.beq (sx_tg a) 2 && (Nat.blt (sx_pl a) 160 && (if Nat.beq (Nat.mod (Nat.shiftRight (sx_wb (fw mi pc)) (Nat.mod (ax_cl (sx_pl a)).1 256)) 2) 1 then Nat.beq (sx_wc (sx_w1 (fw mi pc))) mj && Nat.beq (Nat.mod (Nat.shiftRight (sx_wb (sx_w1 (fw mi pc))) (Nat.mod (ax_cl (sx_pl a)).1 256)) 2) 1
    else Nat.beq (sx_wc (sx_w2 (fw mi pc))) mj && Nat.beq (Nat.mod (Nat.shiftRight (sx_wb (sx_w2 (fw mi pc))) (Nat.mod (ax_cl (sx_pl a)).1 256)) 2) 1)))
  else false
theorem f_inv {mj n w : Nat} {a : Nat} {av' : List Nat} {vt : Bool} (hn : sx_ia (sx_mt mj).2 = n) (hw : sx_wc w = mj) (hS : ∀ K : List Nat → List Nat → sx_R, sx_tk n S [] K = K (a :: av') rest) (hv : vt = true → sx_tg a = 2 ∧ sx_pl a < 160 ∧ Nat.beq (Nat.mod (Nat.shiftRight (sx_wb w) (Nat.mod (ax_cl (sx_pl a)).1 256)) 2) 1 = true) (ih : sx_ih) (D : Nat) (h : sx_H) (cs ss : Nat) (q : HV h g) : sx_oInv ih w D mi (sx_mt mi).1 [] pc L S h 160 W.sy cs ss vt = sx_call ih D mi (sx_mt mi).1 [] pc L h 160 W.sy cs ss (a :: av') rest mj := by
  unfold sx_oInv
  rw [sx_fo_eq, sx_mtK_eq, hw, hn, hS]
  cases vt with
  | false => rfl
  | true =>
    obtain ⟨h1, h2, h3⟩ := hv rfl
    rw [sx_if_t, fcp1, sx_beq_t h1, cx_at, sx_blt_t h2, sx_if_t, sx_rdK_eq, q.1 _ h2, h3, sx_if_t]
theorem f_qm_ok {mj n op a : Nat} {av' : List Nat} (q : f_qm mi pc mj op a = true) (hn : sx_ia (sx_mt mj).2 = n) (hS : ∀ K : List Nat → List Nat → sx_R, sx_tk n (S) [] K = K (a :: av') rest) (h40 : op = 40 → ∃ t, S = a :: t) : sx_wh (sx_ft (sx_mt mi).1 pc) = 0 ∧ ∀ (ih : sx_ih) D h cs ss, HV h g → sx_body ih W.N (sx_ft (sx_mt mi).1 pc) D mi (sx_mt mi).1 [] pc L S h 160 W.sy cs ss = sx_call ih D mi (sx_mt mi).1 [] pc L h 160 W.sy cs ss (a :: av') rest mj := by
  unfold f_qm at q
  by_cases c : op = 22
  · rw [if_pos c] at q
    obtain ⟨q1, q2⟩ := f_and q
    obtain ⟨o1, o2⟩ := fq_ok q1
    exact ⟨o2, fun ih D h cs ss hv => by rw [cx_b22 o1]; exact f_inv hn (sx_beq q2) hS (fun t => by cases t) ih D h cs ss hv⟩
  · rw [if_neg c] at q
    by_cases c : op = 21
    · rw [if_pos c] at q
      obtain ⟨q1, q2⟩ := f_and q
      obtain ⟨q2, q3⟩ := f_and q2
      obtain ⟨q3, q4⟩ := f_and q3
      obtain ⟨q4, q5⟩ := f_and q4
      obtain ⟨o1, o2⟩ := fq_ok q1
      exact ⟨o2, fun ih D h cs ss hv => by rw [cx_b21 o1]; exact f_inv hn (sx_beq q2) hS (fun t => ⟨sx_beq q3, sx_blt q4, q5⟩) ih D h cs ss hv⟩
    · rw [if_neg c] at q
      by_cases c : op = 23
      · rw [if_pos c] at q
        obtain ⟨q1, q2⟩ := f_and q
        obtain ⟨q2, q3⟩ := f_and q2
        obtain ⟨q3, q4⟩ := f_and q3
        obtain ⟨o1, o2⟩ := fq_ok q1
        refine ⟨o2, fun ih D h cs ss hv => ?_⟩
        rw [cx_b23 o1]
        unfold sx_oInvI
        rw [sx_fo_eq, sx_mtK_eq, show sx_wc (sx_ft (sx_mt mi).1 pc) = mj from sx_beq q2, hn, hS, fcp1, q3, cx_at, q4, sx_if_t]
      · rw [if_neg c] at q
        by_cases c : op = 39
        · rw [if_pos c] at q
          obtain ⟨q1, q2⟩ := f_and q
          obtain ⟨q2, q3⟩ := f_and q2
          obtain ⟨o1, o2⟩ := fq_ok q1
          refine ⟨o2, fun ih D h cs ss hv => ?_⟩
          rw [cx_b39 o1]
          unfold sx_oInvX
          rw [sx_fo_eq, sx_mtK_eq, show sx_wc (sx_ft (sx_mt mi).1 pc) = mj from sx_beq q2, hn, hS, fcp1, q3, sx_if_t]
        · rw [if_neg c] at q
          by_cases c : op = 40
          · rw [if_pos c] at q
            obtain ⟨t, rfl⟩ := h40 c
            obtain ⟨q1, q2⟩ := f_and q
            obtain ⟨q2, q3⟩ := f_and q2
            obtain ⟨q3, q4⟩ := f_and q3
            obtain ⟨o1, o2⟩ := fq_ok q1
            refine ⟨o2, fun ih D h cs ss hv => ?_⟩
            rw [cx_b40 o1]
            unfold sx_oInvW
            rw [fcp1, sx_rdK_eq, hv.1 _ (sx_blt q3)]
            cases e : Nat.beq (Nat.mod (Nat.shiftRight (sx_wb (sx_ft (sx_mt mi).1 pc)) (Nat.mod (ax_cl (sx_pl a)).1 256)) 2) 1 with
            | true =>
              rw [sx_if_t, sx_fo_eq]
              rw [if_pos (show Nat.beq (Nat.mod (Nat.shiftRight (sx_wb (fw mi pc)) (Nat.mod (ax_cl (sx_pl a)).1 256)) 2) 1 = true from e)] at q4
              obtain ⟨q4, q5⟩ := f_and q4
              exact f_inv hn (sx_beq q4) hS (fun t => ⟨sx_beq q2, sx_blt q3, q5⟩) ih D h cs ss hv
            | false =>
              rw [sx_if_f, sx_fo_eq]
              rw [if_neg (show ¬ Nat.beq (Nat.mod (Nat.shiftRight (sx_wb (fw mi pc)) (Nat.mod (ax_cl (sx_pl a)).1 256)) 2) 1 = true from fun t => by rw [show Nat.beq (Nat.mod (Nat.shiftRight (sx_wb (fw mi pc)) (Nat.mod (ax_cl (sx_pl a)).1 256)) 2) 1 = false from e] at t; cases t)] at q4
              obtain ⟨q4, q5⟩ := f_and q4
              exact f_inv hn (sx_beq q4) hS (fun t => ⟨sx_beq q2, sx_blt q3, q5⟩) ih D h cs ss hv
          · rw [if_neg c] at q
            cases q
theorem fx_c (n : Nat) {mj op a pc' dj : Nat} {av' P : List Nat} (q : (f_qm mi pc mj op a && f_qi mi pc mj n pc' P) = true) (hS : ∀ K : List Nat → List Nat → sx_R, sx_tk n S [] K = K (a :: av') rest) (h40 : op = 40 → ∃ t, S = a :: t) (hl : (a :: av').length = n) (h4 : ∀ v ∈ a :: av', v % 8 ≠ 4) (hr : Nat.ble (Nat.add (Nat.mul 2 (List.length rest)) (sx_im (sx_mt mj).2)) 89 = true) (hd : dj + 1 ≤ d) (k : fx (fWl W 0) r dj mj 0 (a :: av' ++ P) [] g (fK W r d mi pc' L rest Q)) : fx W r d mi pc L S g Q := by
  obtain ⟨q1, q2⟩ := f_and q
  obtain ⟨r1, r2, r3, r4, r5, r6⟩ := f_qi_ok q2
  obtain ⟨e1, e2⟩ := f_qm_ok (W := W) (L := L) (g := g) q1 r1 hS h40
  refine fx_call e1 e2 (by rw [r2, cx_at, hr]) hd r3 r4 ?_ k
  rw [f_xp h4 (by rw [hl]; exact r5), hl, r6]
theorem fx_c1 (mj op pc' dj : Nat) (P : List Nat) {a : Nat} (q : (f_qm mi pc mj op a && f_qi mi pc mj 1 pc' P) = true) (h4 : a % 8 ≠ 4) (hr : Nat.ble (Nat.add (Nat.mul 2 (List.length rest)) (sx_im (sx_mt mj).2)) 89 = true) (hd : dj + 1 ≤ d) (k : fx (fWl W 0) r dj mj 0 (a :: P) [] g (fK W r d mi pc' L rest Q)) : fx W r d mi pc L (a :: rest) g Q :=
  fx_c 1 (av' := []) q (fun K => rfl) (fun _ => ⟨_, rfl⟩) rfl (fun v hv => by rcases List.mem_cons.mp hv with rfl | hv; exact h4; cases hv) hr hd k
theorem fx_c2 (mj op pc' dj : Nat) (P : List Nat) {a b : Nat} (q : (f_qm mi pc mj op a && f_qi mi pc mj 2 pc' P) = true) (h40 : op ≠ 40) (h4 : a % 8 ≠ 4) (h4b : b % 8 ≠ 4) (hr : Nat.ble (Nat.add (Nat.mul 2 (List.length rest)) (sx_im (sx_mt mj).2)) 89 = true) (hd : dj + 1 ≤ d) (k : fx (fWl W 0) r dj mj 0 (a :: b :: P) [] g (fK W r d mi pc' L rest Q)) : fx W r d mi pc L (b :: a :: rest) g Q :=
  fx_c 2 (av' := [b]) q (fun K => rfl) (fun t => absurd t h40) rfl (fun v hv => by rcases List.mem_cons.mp hv with rfl | hv; exact h4; rcases List.mem_cons.mp hv with rfl | hv; exact h4b; cases hv) hr hd k
theorem fx_c3 (mj op pc' dj : Nat) (P : List Nat) {a b c : Nat} (q : (f_qm mi pc mj op a && f_qi mi pc mj 3 pc' P) = true) (h40 : op ≠ 40) (h4 : a % 8 ≠ 4) (h4b : b % 8 ≠ 4) (h4c : c % 8 ≠ 4) (hr : Nat.ble (Nat.add (Nat.mul 2 (List.length rest)) (sx_im (sx_mt mj).2)) 89 = true) (hd : dj + 1 ≤ d) (k : fx (fWl W 0) r dj mj 0 (a :: b :: c :: P) [] g (fK W r d mi pc' L rest Q)) : fx W r d mi pc L (c :: b :: a :: rest) g Q :=
  fx_c 3 (av' := [b, c]) q (fun K => rfl) (fun t => absurd t h40) rfl (fun v hv => by rcases List.mem_cons.mp hv with rfl | hv; exact h4; rcases List.mem_cons.mp hv with rfl | hv; exact h4b; rcases List.mem_cons.mp hv with rfl | hv; exact h4c; cases hv) hr hd k
theorem fx_c4 (mj op pc' dj : Nat) (P : List Nat) {a b c e : Nat} (q : (f_qm mi pc mj op a && f_qi mi pc mj 4 pc' P) = true) (h40 : op ≠ 40) (h4 : a % 8 ≠ 4) (h4b : b % 8 ≠ 4) (h4c : c % 8 ≠ 4) (h4e : e % 8 ≠ 4) (hr : Nat.ble (Nat.add (Nat.mul 2 (List.length rest)) (sx_im (sx_mt mj).2)) 89 = true) (hd : dj + 1 ≤ d) (k : fx (fWl W 0) r dj mj 0 (a :: b :: c :: e :: P) [] g (fK W r d mi pc' L rest Q)) : fx W r d mi pc L (e :: c :: b :: a :: rest) g Q :=
  fx_c 4 (av' := [b, c, e]) q (fun K => rfl) (fun t => absurd t h40) rfl (fun v hv => by rcases List.mem_cons.mp hv with rfl | hv; exact h4; rcases List.mem_cons.mp hv with rfl | hv; exact h4b; rcases List.mem_cons.mp hv with rfl | hv; exact h4c; rcases List.mem_cons.mp hv with rfl | hv; exact h4e; cases hv) hr hd k
theorem fx_c5 (mj op pc' dj : Nat) (P : List Nat) {a b c e f : Nat} (q : (f_qm mi pc mj op a && f_qi mi pc mj 5 pc' P) = true) (h40 : op ≠ 40) (h4 : a % 8 ≠ 4) (h4b : b % 8 ≠ 4) (h4c : c % 8 ≠ 4) (h4e : e % 8 ≠ 4) (h4f : f % 8 ≠ 4) (hr : Nat.ble (Nat.add (Nat.mul 2 (List.length rest)) (sx_im (sx_mt mj).2)) 89 = true) (hd : dj + 1 ≤ d) (k : fx (fWl W 0) r dj mj 0 (a :: b :: c :: e :: f :: P) [] g (fK W r d mi pc' L rest Q)) : fx W r d mi pc L (f :: e :: c :: b :: a :: rest) g Q :=
  fx_c 5 (av' := [b, c, e, f]) q (fun K => rfl) (fun t => absurd t h40) rfl (fun v hv => by rcases List.mem_cons.mp hv with rfl | hv; exact h4; rcases List.mem_cons.mp hv with rfl | hv; exact h4b; rcases List.mem_cons.mp hv with rfl | hv; exact h4c; rcases List.mem_cons.mp hv with rfl | hv; exact h4e; rcases List.mem_cons.mp hv with rfl | hv; exact h4f; cases hv) hr hd k
theorem fx_c6 (mj op pc' dj : Nat) (P : List Nat) {a b c e f i : Nat} (q : (f_qm mi pc mj op a && f_qi mi pc mj 6 pc' P) = true) (h40 : op ≠ 40) (h4 : a % 8 ≠ 4) (h4b : b % 8 ≠ 4) (h4c : c % 8 ≠ 4) (h4e : e % 8 ≠ 4) (h4f : f % 8 ≠ 4) (h4i : i % 8 ≠ 4) (hr : Nat.ble (Nat.add (Nat.mul 2 (List.length rest)) (sx_im (sx_mt mj).2)) 89 = true) (hd : dj + 1 ≤ d) (k : fx (fWl W 0) r dj mj 0 (a :: b :: c :: e :: f :: i :: P) [] g (fK W r d mi pc' L rest Q)) : fx W r d mi pc L (i :: f :: e :: c :: b :: a :: rest) g Q :=
  fx_c 6 (av' := [b, c, e, f, i]) q (fun K => rfl) (fun t => absurd t h40) rfl (fun v hv => by rcases List.mem_cons.mp hv with rfl | hv; exact h4; rcases List.mem_cons.mp hv with rfl | hv; exact h4b; rcases List.mem_cons.mp hv with rfl | hv; exact h4c; rcases List.mem_cons.mp hv with rfl | hv; exact h4e; rcases List.mem_cons.mp hv with rfl | hv; exact h4f; rcases List.mem_cons.mp hv with rfl | hv; exact h4i; cases hv) hr hd k
end FXD
