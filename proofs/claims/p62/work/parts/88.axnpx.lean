/-! px: the law's first steps, which make all cells; nothing of the script is read there -/
def px_L : List Nat := [5, 2, 1186, 1274, 0, 7, 7]
noncomputable def px_le (a : List Nat) : List Nat → Bool := List.rec (fun b => List.rec true (fun _ _ _ => false) b) (fun x _ ih b => List.rec false (fun y t _ => sx_and (Nat.beq x y) (ih t)) b) a
section PX
variable (ih : sx_ih) (w d mi cd pc : Nat) (L S : List Nat) (h : sx_H) (n cs ss : Nat)
noncomputable def px_call (av rest : List Nat) (mj : Nat) : sx_R := Nat.rec none (fun d' _ => sx_mtK mj (fun cj fj => sx_mtK mi (fun _ _ =>
  sx_if (sx_and (sx_and (Nat.blt 0 cj) (Nat.ble (Nat.add (Nat.mul 2 (List.length rest)) (sx_im fj)) 89)) (sx_and (Nat.ble cs 600002) (Nat.ble ss 7302232)))
    (Option.rec none (fun Lj => Option.rec none (fun outs => List.rec none (fun c t _ => List.rec (sx_if (Nat.beq c.1 0) (sx_fo (Nat.add pc 3) (fun pc' => ih d mi cd [] false pc' L rest c.2.2.1 c.2.2.2.1 [] c.2.2.2.2.2.1 c.2.2.2.2.2.2)) none) (fun _ _ _ => none) t) outs)
      (ih d' mj cj [] false 0 Lj [] h n [] cs ss)) (sx_xp av (sx_im fj))) none))) d
noncomputable def px_inv : sx_R := sx_fo (sx_wc w) (fun mj => sx_mtK mj (fun _ fj => sx_tk (sx_ia fj) S [] (fun av rest => sx_p1 av (fun o _ => sx_if (sx_and (Nat.beq (sx_tg o) 2) (Nat.blt (sx_pl o) n)) (px_call ih d mi cd pc L h n cs ss av rest mj) none))))
noncomputable def px_body : sx_R := sx_fo (sx_op w) (fun o =>
  sx_if (Nat.beq o 1) (sx_oConst ih w d mi cd [] pc L S h n [] cs ss)
  (sx_if (Nat.beq o 2) (sx_oLoad ih w d mi cd [] pc L S h n [] cs ss)
  (sx_if (Nat.beq o 3) (sx_oStore ih w d mi cd [] pc L S h n [] cs ss)
  (sx_if (Nat.beq o 5) (sx_if (Nat.beq (sx_tg (sx_ln L (sx_wa w))) 0) (sx_oIinc ih w d mi cd [] pc L S h n [] cs ss) none)
  (sx_if (Nat.beq o 7) (sx_p1 S (fun y r => sx_p1 r (fun x _ => sx_if (sx_and (Nat.beq (sx_tg x) 0) (Nat.beq (sx_tg y) 0)) (sx_oIcmp ih w d mi cd [] pc L S h n [] cs ss) none)))
  (sx_if (Nat.beq o 8) (sx_oGoto ih w d mi cd [] L S h n [] cs ss)
  (sx_if (Nat.beq o 9) (sx_oGet ih w d mi cd [] pc L S h n [] cs ss)
  (sx_if (Nat.beq o 10) (sx_oPut ih w d mi cd [] pc L S h n [] cs ss)
  (sx_if (Nat.beq o 12) (sx_p1 S (fun _ r => sx_p1 r (fun i _ => sx_if (Nat.beq (sx_tg i) 0) (sx_oAst ih d mi cd [] pc L S h n [] cs ss 100) none)))
  (sx_if (Nat.beq o 16) (sx_p1 S (fun _ r => sx_p1 r (fun i _ => sx_if (Nat.beq (sx_tg i) 0) (sx_oAst ih d mi cd [] pc L S h n [] cs ss 102) none)))
  (sx_if (Nat.beq o 18) (sx_oNew ih w d mi cd [] pc L S h n [] cs ss)
  (sx_if (Nat.beq o 19) (sx_p1 S (fun x _ => sx_if (Nat.beq (sx_tg x) 0) (sx_oNewa ih d mi cd [] pc L S h n [] cs ss (Nat.add 100 (sx_wa w)) 2) none))
  (sx_if (Nat.beq o 20) (sx_p1 S (fun x _ => sx_if (Nat.beq (sx_tg x) 0) (sx_oNewa ih d mi cd [] pc L S h n [] cs ss 102 3) none))
  (sx_if (Nat.beq o 23) (px_inv ih w d mi cd pc L S h n cs ss)
  (sx_if (Nat.beq o 24) (sx_oObj ih d mi cd [] pc L S h n [] cs ss)
  (sx_if (Nat.beq o 27) (sx_nil S (some [(0, 0, h, n, [], cs, ss)]))
  (sx_if (Nat.beq o 29) (sx_oDup ih d mi cd [] pc L S h n [] cs ss) none)))))))))))))))))
noncomputable def px_step : sx_R := sx_if (sx_and (Nat.beq mi 0) (Nat.beq pc 23)) (sx_if (sx_and (Nat.beq d 44) (sx_and (Nat.beq cd sx_c0) (sx_and (px_le L px_L) (List.rec true (fun _ _ _ => false) S)))) (some [(99, 0, h, n, [], cs, ss)]) none)
  (sx_fo (sx_ft cd pc) (fun w => sx_if (Nat.beq (sx_wh w) 0) (px_body ih w d mi cd pc L S h n cs ss) none))
end PX
noncomputable def px_run (fuel : Nat) : sx_ih := Nat.rec (fun _ _ _ _ _ _ _ _ _ _ _ _ _ => none) (fun _ ih d mi cd _ _ pc L S h n _ cs ss => px_step ih d mi cd pc L S h n cs ss) fuel
/-! an operation that just goes on -/
def px_T (o : sx_ih → sx_Y → sx_R) (ih : sx_ih) (d mi cd : Nat) (outs : List sx_O) : Prop := ∃ pc' L' S' h' n' cs' ss', ih d mi cd [] false pc' L' S' h' n' [] cs' ss' = some outs ∧ ∀ (ih' : sx_ih) (sy : sx_Y), o ih' sy = ih' d mi cd [] false pc' L' S' h' n' sy cs' ss'
section PXT
variable {ih : sx_ih} {w d mi cd pc : Nat} {L S : List Nat} {h : sx_H} {n cs ss : Nat} {outs : List sx_O}
theorem px_if0 {c : Bool} {a : sx_R} (q : sx_if c a none = some outs) : c = true ∧ a = some outs := sx_if_ok q
theorem px_p1 {K : Nat → List Nat → sx_R} (q : sx_p1 S K = some outs) : ∃ a r, S = a :: r ∧ K a r = some outs := by
  cases S with
  | nil => cases q
  | cons a r => exact ⟨a, r, rfl, q⟩
theorem px_1 (q : sx_oConst ih w d mi cd [] pc L S h n [] cs ss = some outs) : px_T (fun ih sy => sx_oConst ih w d mi cd [] pc L S h n sy cs ss) ih d mi cd outs := by
  unfold sx_oConst at q
  rw [sx_fo_eq, sx_fo_eq] at q
  exact ⟨_, _, _, _, _, _, _, q, fun ih' sy => by dsimp only; unfold sx_oConst; rw [sx_fo_eq, sx_fo_eq]⟩
theorem px_2 (q : sx_oLoad ih w d mi cd [] pc L S h n [] cs ss = some outs) : px_T (fun ih sy => sx_oLoad ih w d mi cd [] pc L S h n sy cs ss) ih d mi cd outs := by
  unfold sx_oLoad at q
  rw [sx_fo_eq] at q
  obtain ⟨c, q⟩ := px_if0 q
  rw [sx_fo_eq] at q
  exact ⟨_, _, _, _, _, _, _, q, fun ih' sy => by dsimp only; unfold sx_oLoad; rw [sx_fo_eq, c, sx_if_t, sx_fo_eq]⟩
theorem px_3 (q : sx_oStore ih w d mi cd [] pc L S h n [] cs ss = some outs) : px_T (fun ih sy => sx_oStore ih w d mi cd [] pc L S h n sy cs ss) ih d mi cd outs := by
  unfold sx_oStore at q
  obtain ⟨v, r, e, q⟩ := px_p1 q
  subst e
  obtain ⟨c1, q⟩ := px_if0 q
  obtain ⟨c2, q⟩ := px_if0 q
  rw [sx_fo_eq] at q
  cases c3 : Nat.beq (Nat.div (sx_wb w) 16) 2 with
  | true =>
    rw [c3, sx_if_t] at q
    obtain ⟨c4, q⟩ := px_if0 q
    rw [sx_stK_eq, sx_stK_eq] at q
    exact ⟨_, _, _, _, _, _, _, q, fun ih' sy => by dsimp only; unfold sx_oStore; rw [cx_p1, c1, sx_if_t, c2, sx_if_t, sx_fo_eq, c3, sx_if_t, c4, sx_if_t, sx_stK_eq, sx_stK_eq]⟩
  | false =>
    rw [c3, sx_if_f] at q
    obtain ⟨c4, q⟩ := px_if0 q
    rw [sx_stK_eq] at q
    exact ⟨_, _, _, _, _, _, _, q, fun ih' sy => by dsimp only; unfold sx_oStore; rw [cx_p1, c1, sx_if_t, c2, sx_if_t, sx_fo_eq, c3, sx_if_f, c4, sx_if_t, sx_stK_eq]⟩
theorem px_nm {sy : sx_Y} {v : Nat} {K : Nat → sx_R} (t : Nat.beq (sx_tg v) 0 = true) : sx_nm sy v K = K v := by
  unfold sx_nm
  rw [sx_beq_e (show ¬ sx_tg v = 1 by rw [sx_beq t]; decide), sx_if_f]
theorem px_ix {sy : sx_Y} {v : Nat} {K : Nat → sx_Y → sx_R} (t : Nat.beq (sx_tg v) 0 = true) : sx_ix v sy K = K (sx_pl v) sy := by
  unfold sx_ix
  rw [px_nm t, t, sx_if_t]
theorem px_bin {sy : sx_Y} {x y : Nat} {K : Nat → sx_Y → sx_R} (t : Nat.beq (sx_tg x) 0 = true) (u : Nat.beq (sx_tg y) 0 = true) : sx_bin 0 x y sy K = K (Nat.mul 8 (Nat.mod (Nat.add (sx_pl x) (sx_pl y)) 4294967296)) sy := by
  unfold sx_bin
  rw [px_nm t, px_nm u, t, sx_if_t, u, sx_if_t]
  unfold sx_bk
  rw [sx_beq_t rfl, sx_if_t, sx_fo_eq]
theorem px_cmp {sy : sx_Y} {c x y : Nat} {K : Bool → sx_Y → sx_R} (t : Nat.beq (sx_tg x) 0 = true) (u : Nat.beq (sx_tg y) 0 = true) : sx_cmp c x y sy K = K (sx_cb c (sx_bs (sx_pl x)) (sx_bs (sx_pl y))) sy := by
  unfold sx_cmp
  rw [px_nm t, px_nm u, t, sx_if_t, u, sx_if_t]
theorem px_5 (t : Nat.beq (sx_tg (sx_ln L (sx_wa w))) 0 = true) (q : sx_oIinc ih w d mi cd [] pc L S h n [] cs ss = some outs) : px_T (fun ih sy => sx_oIinc ih w d mi cd [] pc L S h n sy cs ss) ih d mi cd outs := by
  have u : Nat.beq (sx_tg (Nat.mul 8 (sx_wc w))) 0 = true := sx_beq_t (show 8 * sx_wc w % 8 = 0 from Nat.mul_mod_right 8 _)
  unfold sx_oIinc at q
  obtain ⟨c1, q⟩ := px_if0 q
  obtain ⟨c2, q⟩ := px_if0 q
  rw [sx_fo_eq] at q
  obtain ⟨c3, q⟩ := px_if0 q
  rw [px_bin t u, sx_stK_eq, sx_fo_eq] at q
  exact ⟨_, _, _, _, _, _, _, q, fun ih' sy => by dsimp only; unfold sx_oIinc; rw [c1, sx_if_t, c2, sx_if_t, sx_fo_eq, c3, sx_if_t, px_bin t u, sx_stK_eq, sx_fo_eq]⟩
theorem px_7 {x y : Nat} {r : List Nat} (t : Nat.beq (sx_tg x) 0 = true) (u : Nat.beq (sx_tg y) 0 = true) (q : sx_oIcmp ih w d mi cd [] pc L (y :: x :: r) h n [] cs ss = some outs) : px_T (fun ih sy => sx_oIcmp ih w d mi cd [] pc L (y :: x :: r) h n sy cs ss) ih d mi cd outs := by
  unfold sx_oIcmp at q
  rw [cx_p1, cx_p1] at q
  obtain ⟨c1, q⟩ := px_if0 q
  rw [px_cmp t u, sx_fo_eq] at q
  exact ⟨_, _, _, _, _, _, _, q, fun ih' sy => by dsimp only; unfold sx_oIcmp; rw [cx_p1, cx_p1, c1, sx_if_t, px_cmp t u, sx_fo_eq]⟩
theorem px_8 (q : sx_oGoto ih w d mi cd [] L S h n [] cs ss = some outs) : px_T (fun ih sy => sx_oGoto ih w d mi cd [] L S h n sy cs ss) ih d mi cd outs := by
  unfold sx_oGoto at q
  rw [sx_fo_eq] at q
  exact ⟨_, _, _, _, _, _, _, q, fun ih' sy => by dsimp only; unfold sx_oGoto; rw [sx_fo_eq]⟩
theorem px_ifn {c : Bool} {a : sx_R} (q : sx_if c none a = some outs) : c = false ∧ a = some outs := by
  cases c with
  | true => cases q
  | false => exact ⟨rfl, q⟩
theorem px_9 (q : sx_oGet ih w d mi cd [] pc L S h n [] cs ss = some outs) : px_T (fun ih sy => sx_oGet ih w d mi cd [] pc L S h n sy cs ss) ih d mi cd outs := by
  unfold sx_oGet at q
  obtain ⟨v, r, e, q⟩ := px_p1 q
  subst e
  obtain ⟨c1, q⟩ := px_if0 q
  rw [sx_rdK_eq, sx_fo_eq] at q
  obtain ⟨c2, q⟩ := px_ifn q
  rw [sx_fo_eq, sx_fo_eq] at q
  exact ⟨_, _, _, _, _, _, _, q, fun ih' sy => by dsimp only; unfold sx_oGet; rw [cx_p1, c1, sx_if_t, sx_rdK_eq, sx_fo_eq, c2, sx_if_f, sx_fo_eq, sx_fo_eq]⟩
theorem px_10 (q : sx_oPut ih w d mi cd [] pc L S h n [] cs ss = some outs) : px_T (fun ih sy => sx_oPut ih w d mi cd [] pc L S h n sy cs ss) ih d mi cd outs := by
  unfold sx_oPut at q
  obtain ⟨v, r, e, q⟩ := px_p1 q
  obtain ⟨o, r2, e2, q⟩ := px_p1 q
  subst e2 e
  obtain ⟨c1, q⟩ := px_if0 q
  rw [sx_rdK_eq, sx_fo_eq] at q
  obtain ⟨c2, q⟩ := px_ifn q
  obtain ⟨c3, q⟩ := px_if0 q
  obtain ⟨c4, q⟩ := px_if0 q
  rw [sx_fo_eq, sx_wrK_eq, sx_fo_eq] at q
  exact ⟨_, _, _, _, _, _, _, q, fun ih' sy => by dsimp only; unfold sx_oPut; rw [cx_p1, cx_p1, c1, sx_if_t, sx_rdK_eq, sx_fo_eq, c2, sx_if_f, c3, sx_if_t, c4, sx_if_t, sx_fo_eq, sx_wrK_eq, sx_fo_eq]⟩
theorem px_12 {kd v i : Nat} {r : List Nat} (t : Nat.beq (sx_tg i) 0 = true) (q : sx_oAst ih d mi cd [] pc L (v :: i :: r) h n [] cs ss kd = some outs) : px_T (fun ih sy => sx_oAst ih d mi cd [] pc L (v :: i :: r) h n sy cs ss kd) ih d mi cd outs := by
  unfold sx_oAst at q
  rw [cx_p1, cx_p1] at q
  obtain ⟨a, r2, e2, q⟩ := px_p1 q
  subst e2
  obtain ⟨c1, q⟩ := px_if0 q
  rw [px_ix t, sx_rdK_eq] at q
  obtain ⟨c2, q⟩ := px_if0 q
  obtain ⟨c3, q⟩ := px_if0 q
  obtain ⟨c4, q⟩ := px_if0 q
  rw [sx_fo_eq, sx_wrK_eq, sx_fo_eq] at q
  exact ⟨_, _, _, _, _, _, _, q, fun ih' sy => by dsimp only; unfold sx_oAst; rw [cx_p1, cx_p1, cx_p1, c1, sx_if_t, px_ix t, sx_rdK_eq, c2, sx_if_t, c3, sx_if_t, c4, sx_if_t, sx_fo_eq, sx_wrK_eq, sx_fo_eq]⟩
theorem px_mk {hd ct len ln : Nat} {S : List Nat} (q : sx_mk ih d mi cd [] pc L h n [] cs ss hd ct len ln S = some outs) : px_T (fun ih sy => sx_mk ih d mi cd [] pc L h n sy cs ss hd ct len ln S) ih d mi cd outs := by
  unfold sx_mk at q
  obtain ⟨c1, q⟩ := px_if0 q
  rw [sx_wrK_eq, sx_fo_eq, sx_fo_eq, sx_fo_eq, sx_fo_eq, sx_fo_eq] at q
  exact ⟨_, _, _, _, _, _, _, q, fun ih' sy => by dsimp only; unfold sx_mk; rw [c1, sx_if_t, sx_wrK_eq, sx_fo_eq, sx_fo_eq, sx_fo_eq, sx_fo_eq, sx_fo_eq]⟩
theorem px_18 (q : sx_oNew ih w d mi cd [] pc L S h n [] cs ss = some outs) : px_T (fun ih sy => sx_oNew ih w d mi cd [] pc L S h n sy cs ss) ih d mi cd outs := by
  unfold sx_oNew at q
  obtain ⟨z, hz, q⟩ := sx_opt_ok q
  obtain ⟨p, l, s, h', n', c', s', k1, k2⟩ := px_mk q
  refine ⟨p, l, s, h', n', c', s', k1, fun ih' sy => ?_⟩
  have k2 := k2 ih' sy
  dsimp only at k2 ⊢
  unfold sx_oNew
  rw [hz]
  exact k2
theorem px_19 {kd ln x : Nat} {r : List Nat} (t : Nat.beq (sx_tg x) 0 = true) (q : sx_oNewa ih d mi cd [] pc L (x :: r) h n [] cs ss kd ln = some outs) : px_T (fun ih sy => sx_oNewa ih d mi cd [] pc L (x :: r) h n sy cs ss kd ln) ih d mi cd outs := by
  unfold sx_oNewa at q
  rw [cx_p1, px_ix t] at q
  obtain ⟨c1, q⟩ := px_if0 q
  rw [sx_fo_eq] at q
  obtain ⟨p, l, s, h', n', c', s', k1, k2⟩ := px_mk q
  refine ⟨p, l, s, h', n', c', s', k1, fun ih' sy => ?_⟩
  have k2 := k2 ih' sy
  dsimp only at k2 ⊢
  unfold sx_oNewa
  rw [cx_p1, px_ix t, c1, sx_if_t, sx_fo_eq]
  exact k2
theorem px_24 (q : sx_oObj ih d mi cd [] pc L S h n [] cs ss = some outs) : px_T (fun ih sy => sx_oObj ih d mi cd [] pc L S h n sy cs ss) ih d mi cd outs := by
  unfold sx_oObj at q
  obtain ⟨v, r, e, q⟩ := px_p1 q
  subst e
  obtain ⟨c1, q⟩ := px_if0 q
  rw [sx_fo_eq] at q
  exact ⟨_, _, _, _, _, _, _, q, fun ih' sy => by dsimp only; unfold sx_oObj; rw [cx_p1, c1, sx_if_t, sx_fo_eq]⟩
theorem px_29 (q : sx_oDup ih d mi cd [] pc L S h n [] cs ss = some outs) : px_T (fun ih sy => sx_oDup ih d mi cd [] pc L S h n sy cs ss) ih d mi cd outs := by
  unfold sx_oDup at q
  obtain ⟨v, r, e, q⟩ := px_p1 q
  subst e
  obtain ⟨c1, q⟩ := px_ifn q
  rw [sx_fo_eq] at q
  exact ⟨_, _, _, _, _, _, _, q, fun ih' sy => by dsimp only; unfold sx_oDup; rw [cx_p1, c1, sx_if_f, sx_fo_eq]⟩
end PXT
