/-! sx: loops' heads, and the run -/
noncomputable def sx_rng (sy : sx_Y) (v lo hi : Nat) : Bool := sx_if (Nat.beq (sx_tg v) 0) (sx_and (Nat.ble lo (sx_bs (sx_pl v))) (Nat.ble (sx_bs (sx_pl v)) hi))
  (sx_if (Nat.beq (sx_tg v) 1) (Option.rec false (fun e => sx_and (Nat.ble lo e.1) (Nat.ble e.2.1 hi)) (sx_nth sy (sx_pl v))) false)
noncomputable def sx_res (ty i j k n : Nat) (L : List Nat) (h : sx_H) (K : Nat → Nat → sx_R) : sx_R :=
  sx_if (Nat.beq ty 0) (sx_fo (Nat.add 256 i) (fun c => K c 0))
    (sx_fo (sx_ln L i) (fun v => sx_if (sx_and (Nat.beq (sx_tg v) 2) (Nat.blt (sx_pl v) n)) (sx_if (Nat.beq ty 1) (sx_fo (sx_pl v) (fun c => K c j))
      (sx_rdK h (sx_pl v) (fun _ ct => sx_fo (sx_get ct j) (fun v => sx_if (Nat.beq (sx_tg v) 2) (sx_fo (sx_pl v) (fun c => K c k)) none)))) none))
/-- locals: where the head knows none, any -/
noncomputable def sx_lle (a : List Nat) : List Nat → Bool := List.rec (fun b => List.rec true (fun _ _ _ => false) b) (fun x _ ih b => List.rec false (fun y t _ => sx_and (sx_if (Nat.beq y 7) true (Nat.beq x y)) (ih t)) b) a
noncomputable def sx_q4 {α : Type} (eq : α → α → Bool) (t u : sx_Q α) : Bool := Prod.rec (fun a r => Prod.rec (fun b r => Prod.rec (fun c d => Prod.rec (fun a2 r => Prod.rec (fun b2 r => Prod.rec (fun c2 d2 => sx_and (eq a a2) (sx_and (eq b b2) (sx_and (eq c c2) (eq d d2)))) r) r) u) r) r) t
noncomputable def sx_heq (t u : sx_H) : Bool := sx_q4 (sx_q4 (sx_q4 (sx_q4 (fun a b => Prod.rec (fun x y => Prod.rec (fun x2 y2 => sx_and (Nat.beq x x2) (Nat.beq y y2)) b) a)))) t u
noncomputable def sx_rk (sy : sx_Y) (v v0 : Nat) : Bool := sx_and (Nat.beq (sx_tg v) 1) (sx_and (Nat.beq (sx_tg v0) 1) (Option.rec false (fun e => sx_and (Nat.beq e.2.2.1 (Nat.succ (sx_pl v0))) (Nat.blt 0 e.2.2.2)) (sx_nth sy (sx_pl v))))
noncomputable def sx_fnd (l : List sx_I) (pc : Nat) : Option sx_I := List.rec none (fun q _ ih => sx_if (Nat.beq q.1 pc) (some q) ih) l
noncomputable def sx_fiv (l : List (Nat × Nat × Nat × List (Nat × Nat × Nat × Nat × Nat × Nat))) (mi pc : Nat) : Option (Nat × List (Nat × Nat × Nat × Nat × Nat × Nat)) := List.rec none (fun q _ ih => sx_if (sx_and (Nat.beq q.1 mi) (Nat.beq q.2.1 pc)) (some q.2.2) ih) l
noncomputable def sx_nil' (S : List Nat) (r : sx_R) : sx_R := List.rec r (fun _ _ _ => none) S
/-- a place c, j of the cells becomes the value u, where it lies in lo to hi; so does the local r become v -/
noncomputable def sx_pla (c j u lo hi r v lr hr n : Nat) (sy : sx_Y) (L : List Nat) (h : sx_H) (K : List Nat → sx_H → sx_R) : sx_R :=
  sx_if (sx_and (sx_rng sy (sx_ln L r) lr hr) (sx_and (Nat.blt r (List.length L)) (sx_and (Nat.blt c n) (Nat.ble u 1000000))))
    (sx_rdK h c (fun hd ct => sx_if (sx_and (Nat.ble (Nat.mod hd 256) 100) (sx_and (Nat.blt j (Nat.div hd 256)) (sx_rng sy (sx_get ct j) lo hi)))
      (sx_fo (sx_set ct j u) (fun ct' => sx_wrK h c (hd, ct') (fun h => sx_stK v L r (fun L => K L h)))) none)) none
/-- back at a head that stands open: what is there is one of its states, and its rank is less -/
noncomputable def sx_bck (e : sx_I) (L S : List Nat) (h : sx_H) (n : Nat) (sy : sx_Y) (cs ss : Nat) : sx_R :=
  Prod.rec (fun _ q => Prod.rec (fun L0 q => Prod.rec (fun _ q => Prod.rec (fun h0 q => Prod.rec (fun n0 q => Prod.rec (fun sy0 q => Prod.rec (fun k0 q => Prod.rec (fun r q => Prod.rec (fun pl q => Prod.rec (fun cs0 ss0 =>
    sx_if (sx_and (sx_rk sy (sx_ln L r) (sx_ln L0 r)) (sx_and (Nat.beq n n0) (sx_and (Nat.beq cs cs0) (Nat.beq ss ss0))))
      (sx_nil' S (List.rec none (fun z _ _ => Option.rec none (fun e1 => Option.rec none (fun e2 => sx_pla z.1 z.2.1 (Nat.add (Nat.mul 8 (Nat.succ k0)) 1) e2.1 e2.2.1 r (Nat.add (Nat.mul 8 k0) 1) e1.1 e1.2.1 n sy L h (fun L h => sx_if (sx_and (sx_lle L L0) (sx_heq h h0)) (some []) none)) (sx_nth sy0 (Nat.succ k0))) (sx_nth sy0 k0)) pl)) none) q) q) q) q) q) q) q) q) q) e
section SXRun
variable (ih : sx_ih) (N w d mi cd : Nat) (lst : List sx_I) (pc : Nat) (L S : List Nat) (h : sx_H) (n : Nat) (sy : sx_Y) (cs ss : Nat)
noncomputable def sx_open (r : Nat) (e1 e2 : Nat × Nat × Nat × Nat × Nat × Nat) : sx_R := sx_fo (List.length sy) (fun k0 => sx_nil' S (sx_res e2.1 e2.2.1 e2.2.2.1 e2.2.2.2.1 n L h (fun c j =>
  sx_pla c j (Nat.add (Nat.mul 8 (Nat.succ k0)) 1) e2.2.2.2.2.1 e2.2.2.2.2.2 r (Nat.add (Nat.mul 8 k0) 1) e1.2.2.2.2.1 e1.2.2.2.2.2 n sy L h (fun L' h' => sx_fo e1.2.2.2.2.1 (fun l1 => sx_fo e1.2.2.2.2.2 (fun u1 => sx_fo e2.2.2.2.2.1 (fun l2 => sx_fo e2.2.2.2.2.2 (fun u2 =>
    ih d mi cd ((pc, L', [], h', n, sy ++ [(l1, u1, 0, 0), (l2, u2, 0, 0)], k0, r, [(c, j, 0)], cs, ss) :: lst) true pc L' [] h' n (sy ++ [(l1, u1, 0, 0), (l2, u2, 0, 0)]) cs ss))))))))
noncomputable def sx_head : sx_R := Option.rec
  (Option.rec none (fun q => List.rec none (fun e1 t _ => List.rec none (fun e2 _ _ => sx_open ih d mi cd lst pc L S h n sy cs ss q.1 e1 e2) t) q.2) (sx_fiv sx_ivs mi pc))
  (fun e => sx_bck e L S h n sy cs ss) (sx_fnd lst pc)
noncomputable def sx_body : sx_R := sx_fo (sx_op w) (fun o =>
  sx_if (Nat.beq o 2) (sx_oLoad ih w d mi cd lst pc L S h n sy cs ss)
  (sx_if (Nat.beq o 1) (sx_oConst ih w d mi cd lst pc L S h n sy cs ss)
  (sx_if (Nat.beq o 9) (sx_oGet ih w d mi cd lst pc L S h n sy cs ss)
  (sx_if (Nat.beq o 7) (sx_oIcmp ih w d mi cd lst pc L S h n sy cs ss)
  (sx_if (Nat.beq o 6) (sx_oIf ih w d mi cd lst pc L S h n sy cs ss)
  (sx_if (Nat.beq o 11) (sx_oIald ih N d mi cd lst pc L S h n sy cs ss)
  (sx_if (Nat.beq o 8) (sx_oGoto ih w d mi cd lst L S h n sy cs ss)
  (sx_if (Nat.beq o 5) (sx_oIinc ih w d mi cd lst pc L S h n sy cs ss)
  (sx_if (Nat.beq o 3) (sx_oStore ih w d mi cd lst pc L S h n sy cs ss)
  (sx_if (Nat.beq o 26) (sx_oRet w S h n sy cs ss)
  (sx_if (Nat.beq o 21) (sx_oInv ih w d mi cd lst pc L S h n sy cs ss true)
  (sx_if (Nat.beq o 4) (sx_oBin ih w d mi cd lst pc L S h n sy cs ss)
  (sx_if (Nat.beq o 12) (sx_oAst ih d mi cd lst pc L S h n sy cs ss 100)
  (sx_if (Nat.beq o 22) (sx_oInv ih w d mi cd lst pc L S h n sy cs ss false)
  (sx_if (Nat.beq o 27) (sx_nil S (some [(0, 0, h, n, sy, cs, ss)]))
  (sx_if (Nat.beq o 10) (sx_oPut ih w d mi cd lst pc L S h n sy cs ss)
  (sx_if (Nat.beq o 29) (sx_oDup ih d mi cd lst pc L S h n sy cs ss)
  (sx_if (Nat.beq o 30) (sx_oDup2 ih d mi cd lst pc L S h n sy cs ss)
  (sx_if (Nat.beq o 31) (sx_oPop ih d mi cd lst pc L S h n sy cs ss)
  (sx_if (Nat.beq o 13) (sx_oAld ih N d mi cd lst pc L S h n sy cs ss 101)
  (sx_if (Nat.beq o 14) (sx_oAst ih d mi cd lst pc L S h n sy cs ss 101)
  (sx_if (Nat.beq o 15) (sx_oAld ih N d mi cd lst pc L S h n sy cs ss 102)
  (sx_if (Nat.beq o 16) (sx_oAst ih d mi cd lst pc L S h n sy cs ss 102)
  (sx_if (Nat.beq o 17) (sx_oAlenX ih N d mi cd lst pc L S h n sy cs ss)
  (sx_if (Nat.beq o 18) (sx_oNew ih w d mi cd lst pc L S h n sy cs ss)
  (sx_if (Nat.beq o 19) (sx_oNewa ih d mi cd lst pc L S h n sy cs ss (Nat.add 100 (sx_wa w)) 2)
  (sx_if (Nat.beq o 20) (sx_oNewa ih d mi cd lst pc L S h n sy cs ss 102 3)
  (sx_if (Nat.beq o 23) (sx_oInvI ih w d mi cd lst pc L S h n sy cs ss)
  (sx_if (Nat.beq o 24) (sx_oObj ih d mi cd lst pc L S h n sy cs ss)
  (sx_if (Nat.beq o 25) (sx_oCpy ih d mi cd lst pc L S h n sy cs ss)
  (sx_if (Nat.beq o 28) (sx_oThrow w mi S h n sy cs ss)
  (sx_if (Nat.beq o 32) (sx_oUn ih w d mi cd lst pc L S h n sy cs ss)
  (sx_if (Nat.beq o 35) (sx_oLb ih w d mi cd lst pc L S h n sy cs ss)
  (sx_if (Nat.beq o 37) (sx_oSw ih w d mi cd lst L S h n sy cs ss)
  (sx_if (Nat.beq o 39) (sx_oInvX ih w d mi cd lst pc L S h n sy cs ss)
  (sx_if (Nat.beq o 38) (sx_oSget ih w d mi cd lst pc L S h n sy cs ss)
  (sx_if (Nat.beq o 33) (sx_oLdcS ih w d mi cd lst pc L S h n sy cs ss)
  (sx_if (Nat.beq o 34) (sx_oGets ih w d mi cd lst pc L S h n sy cs ss)
  (sx_if (Nat.beq o 36) (sx_oBald ih d mi cd lst pc L S h n sy cs ss)
  (sx_if (Nat.beq o 42) (sx_oI2c ih d mi cd lst pc L S h n sy cs ss)
  (sx_if (Nat.beq o 43) (sx_oRetN w S h n sy cs ss)
  (sx_if (Nat.beq o 40) (sx_oInvW ih w d mi cd lst pc L S h n sy cs ss)
  (sx_if (Nat.beq o 41) (sx_oLcon ih w d mi cd lst pc L S h n sy cs ss) none)))))))))))))))))))))))))))))))))))))))))))
noncomputable def sx_step (fl : Bool) : sx_R := sx_fo (sx_ft cd pc) (fun w => sx_if (sx_if fl true (Nat.beq (sx_wh w) 0)) (sx_body ih N w d mi cd lst pc L S h n sy cs ss) (sx_head ih d mi cd lst pc L S h n sy cs ss))
end SXRun
noncomputable def sx_run (N fuel : Nat) : sx_ih := Nat.rec (fun _ _ _ _ _ _ _ _ _ _ _ _ _ => none) (fun _ ih d mi cd lst fl pc L S h n sy cs ss => sx_step ih N d mi cd lst pc L S h n sy cs ss fl) fuel
