/-! joined: 36.sxstep 38.sxrun 40.sxrel 41.sxnum 42.sxarith 44.sxctx 46.sxwd -/
section
/-! sx: the steps -/
noncomputable def sx_p1 (S : List Nat) (K : Nat → List Nat → sx_R) : sx_R := List.rec none (fun a t _ => K a t) S
noncomputable def sx_and (a b : Bool) : Bool := sx_if a b false
noncomputable def sx_ty (t v : Nat) : Bool := sx_if (Nat.beq t 0) (Nat.ble (sx_tg v) 1) (sx_if (Nat.beq t 1) (sx_if (Nat.beq (sx_tg v) 2) true (Nat.beq (sx_tg v) 5)) (Nat.beq (sx_tg v) 4))
noncomputable def sx_mtK (mi : Nat) (K : Nat → Nat → sx_R) : sx_R := sx_if (Nat.blt mi 256) (sx_rdK sx_prog mi K) (sx_rdK sx_qrog (Nat.sub mi 256) K)
def sx_im (f : Nat) : Nat := Nat.mod f 256
def sx_ia (f : Nat) : Nat := Nat.mod (Nat.div f 256) 256
def sx_ihd (f : Nat) : Nat := Nat.div f 65536
def sx_slot (kd fr : Nat) : Nat := Nat.mod (Nat.shiftRight sx_fields (Nat.mul 8 (Nat.add (Nat.mul kd 256) fr))) 256
noncomputable def sx_ix (i : Nat) (sy : sx_Y) (K : Nat → sx_Y → sx_R) : sx_R := sx_nm sy i (fun i => sx_if (Nat.beq (sx_tg i) 0) (K (sx_pl i) sy)
  (sx_if (Nat.beq (sx_tg i) 1) (Option.rec none (fun e => sx_en sy (sx_pl i) e.1 e.2.1 (fun sy => Option.rec none (fun e => sx_fo (sx_bs e.1) (fun x => K x sy)) (sx_nth sy (sx_pl i)))) (sx_nth sy (sx_pl i))) none))
noncomputable def sx_ii (x y : Nat) : Bool := sx_and (Nat.ble (sx_tg x) 1) (Nat.ble (sx_tg y) 1)
/-- the first symbol, and 63: of a symbol with no other below it the last number says the rest of 64, and 1 more -/
noncomputable def sx_bin2 (o x y : Nat) (sy : sx_Y) (K : Nat → sx_Y → sx_R) : sx_R := sx_if (sx_and (Nat.beq o 3) (sx_and (Nat.beq y 504) (Nat.beq x 1)))
  (Option.rec none (fun e => sx_if (sx_and (Nat.beq e.2.2.1 0) (Nat.blt 0 e.2.2.2)) (sx_fo (Nat.mul 8 (Nat.pred e.2.2.2)) (fun v => K v sy)) (sx_bin o x y sy K)) (sx_nth sy 0)) (sx_bin o x y sy K)
section SXStep
variable (ih : sx_ih) (N w d mi cd : Nat) (lst : List sx_I) (pc : Nat) (L S : List Nat) (h : sx_H) (n : Nat) (sy : sx_Y) (cs ss : Nat)
noncomputable def sx_oConst : sx_R := sx_fo (Nat.add pc (sx_wa w)) (fun pc' => sx_fo (sx_wc w) (fun v => ih d mi cd lst false pc' L (v :: S) h n sy cs ss))
noncomputable def sx_oLoad : sx_R := sx_fo (sx_ln L (sx_wa w)) (fun v => sx_if (sx_ty (Nat.div (sx_wb w) 16) v) (sx_fo (Nat.add pc (Nat.mod (sx_wb w) 16)) (fun pc' => ih d mi cd lst false pc' L (v :: S) h n sy cs ss)) none)
noncomputable def sx_oStore : sx_R := sx_p1 S (fun v r => sx_if (sx_ty (Nat.div (sx_wb w) 16) v)
  (sx_if (sx_if (Nat.beq (sx_wa w) 0) true (!Nat.beq (sx_tg (sx_ln L (Nat.pred (sx_wa w)))) 4))
    (sx_fo (Nat.add pc (Nat.mod (sx_wb w) 16)) (fun pc' => sx_if (Nat.beq (Nat.div (sx_wb w) 16) 2)
      (sx_if (Nat.blt (Nat.succ (sx_wa w)) (List.length L)) (sx_stK v L (sx_wa w) (fun L => sx_stK 7 L (Nat.succ (sx_wa w)) (fun L => ih d mi cd lst false pc' L r h n sy cs ss))) none)
      (sx_if (Nat.blt (sx_wa w) (List.length L)) (sx_stK v L (sx_wa w) (fun L => ih d mi cd lst false pc' L r h n sy cs ss)) none))) none) none)
noncomputable def sx_oBin : sx_R := sx_p1 S (fun y r => sx_p1 r (fun x r => sx_if (sx_ii x y) (sx_bin2 (sx_wa w) x y sy (fun v sy => sx_fo (Nat.succ pc) (fun pc' => ih d mi cd lst false pc' L (v :: r) h n sy cs ss))) none))
noncomputable def sx_oIinc : sx_R := sx_if (sx_if (Nat.beq (sx_wa w) 0) true (!Nat.beq (sx_tg (sx_ln L (Nat.pred (sx_wa w)))) 4)) (sx_if (Nat.blt (sx_wa w) (List.length L)) (sx_fo (sx_ln L (sx_wa w)) (fun x => sx_if (Nat.ble (sx_tg x) 1) (sx_bin 0 x (Nat.mul 8 (sx_wc w)) sy (fun v sy => sx_stK v L (sx_wa w) (fun L => sx_fo (Nat.add pc 3) (fun pc' => ih d mi cd lst false pc' L S h n sy cs ss)))) none)) none) none
noncomputable def sx_oIf : sx_R := sx_p1 S (fun x r => sx_if (Nat.ble (sx_tg x) 1) (sx_cmp (sx_wa w) x 0 sy (fun b sy => sx_fo (sx_if b (sx_wb w) (Nat.add pc 3)) (fun pc' => ih d mi cd lst false pc' L r h n sy cs ss))) none)
noncomputable def sx_oIcmp : sx_R := sx_p1 S (fun y r => sx_p1 r (fun x r => sx_if (sx_ii x y) (sx_cmp (sx_wa w) x y sy (fun b sy => sx_fo (sx_if b (sx_wb w) (Nat.add pc 3)) (fun pc' => ih d mi cd lst false pc' L r h n sy cs ss))) none))
noncomputable def sx_oGoto : sx_R := sx_fo (sx_wb w) (fun pc' => ih d mi cd lst false pc' L S h n sy cs ss)
noncomputable def sx_oGet : sx_R := sx_p1 S (fun v r => sx_if (sx_and (Nat.beq (sx_tg v) 2) (Nat.blt (sx_pl v) n))
  (sx_rdK h (sx_pl v) (fun hd ct => sx_fo (sx_slot (Nat.mod hd 256) (sx_wa w)) (fun s => sx_if (Nat.beq s 0) none (sx_fo (sx_get ct (Nat.pred (Nat.mod s 32))) (fun x => sx_fo (Nat.add pc 3) (fun pc' => ih d mi cd lst false pc' L (x :: r) h n sy cs ss)))))) none)
noncomputable def sx_oPut : sx_R := sx_p1 S (fun v r => sx_p1 r (fun o r => sx_if (sx_and (Nat.beq (sx_tg o) 2) (Nat.blt (sx_pl o) n))
  (sx_rdK h (sx_pl o) (fun hd ct => sx_fo (sx_slot (Nat.mod hd 256) (sx_wa w)) (fun s => sx_if (Nat.beq s 0) none
    (sx_if (sx_if (Nat.beq (Nat.div s 32) 0) (Nat.ble (sx_tg v) 1) (sx_if (Nat.beq (Nat.div s 32) 1) (sx_and (Nat.beq (sx_tg v) 0) (Nat.ble (sx_pl v) 1)) (Nat.beq (sx_tg v) 2)))
      (sx_if (Nat.blt v 4722366482869645213696) (sx_fo (sx_set ct (Nat.pred (Nat.mod s 32)) v) (fun ct' => sx_wrK h (sx_pl o) (hd, ct') (fun h => sx_fo (Nat.add pc 3) (fun pc' => ih d mi cd lst false pc' L r h n sy cs ss)))) none) none)))) none))
/-- an array's place: kind 100 ints, 101 longs, 102 objects -/
noncomputable def sx_oAld (kd : Nat) : sx_R := sx_p1 S (fun i r => sx_p1 r (fun a r =>
  sx_if (sx_and (Nat.beq (sx_tg a) 2) (Nat.blt (sx_pl a) n))
    (sx_ix i sy (fun x sy => sx_rdK h (sx_pl a) (fun hd ct => sx_if (sx_and (Nat.beq (Nat.mod hd 256) kd) (Nat.blt x (Nat.div hd 256)))
      (sx_fo (sx_get ct x) (fun v => sx_fo (Nat.succ pc) (fun pc' => sx_if (Nat.beq kd 100) (ih d mi cd lst false pc' L (v :: r) h n sy cs ss)
        (sx_if (Nat.beq kd 101) (sx_fo (Nat.add v 4) (fun v => ih d mi cd lst false pc' L (v :: r) h n sy cs ss))
          (sx_if (Nat.beq v 0) none (ih d mi cd lst false pc' L (v :: r) h n sy cs ss)))))) none)))
    (sx_if (sx_and (Nat.beq a 5) (Nat.beq kd 100)) (sx_ix i sy (fun x sy => sx_if (Nat.blt x N) (sx_nm sy (Nat.succ (Nat.mul 8 x)) (fun v => sx_fo (Nat.succ pc) (fun pc' => ih d mi cd lst false pc' L (v :: r) h n sy cs ss))) none)) none)))
noncomputable def sx_oAst (kd : Nat) : sx_R := sx_p1 S (fun v r => sx_p1 r (fun i r => sx_p1 r (fun a r =>
  sx_if (sx_and (Nat.beq (sx_tg a) 2) (Nat.blt (sx_pl a) n))
    (sx_ix i sy (fun x sy => sx_rdK h (sx_pl a) (fun hd ct => sx_if (sx_and (Nat.beq (Nat.mod hd 256) kd) (Nat.blt x (Nat.div hd 256)))
      (sx_if (sx_if (Nat.beq kd 100) (Nat.ble (sx_tg v) 1) (sx_if (Nat.beq kd 101) (Nat.beq (sx_tg v) 4) (sx_and (Nat.beq (sx_tg v) 2) (sx_and (Nat.blt (sx_pl v) n) (sx_rdK h (sx_pl v) (fun hd _ => Nat.beq (Nat.mod hd 256) sx_tab))))))
        (sx_if (Nat.blt v 4722366482869645213696) (sx_fo (sx_set ct x (sx_if (Nat.beq kd 101) (Nat.sub v 4) v)) (fun ct' => sx_wrK h (sx_pl a) (hd, ct') (fun h => sx_fo (Nat.succ pc) (fun pc' => ih d mi cd lst false pc' L r h n sy cs ss)))) none) none) none))) none)))
noncomputable def sx_oAlen : sx_R := sx_p1 S (fun a r => sx_if (Nat.beq a 5) (sx_fo (Nat.succ pc) (fun pc' => ih d mi cd lst false pc' L (Nat.mul 8 N :: r) h n sy cs ss))
  (sx_if (sx_and (Nat.beq (sx_tg a) 2) (Nat.blt (sx_pl a) n)) (sx_rdK h (sx_pl a) (fun hd _ => sx_if (Nat.ble 100 (Nat.mod hd 256)) (sx_fo (Nat.mul 8 (Nat.div hd 256)) (fun v => sx_fo (Nat.succ pc) (fun pc' => ih d mi cd lst false pc' L (v :: r) h n sy cs ss))) none)) none))
noncomputable def sx_mk (hd ct len ln : Nat) (S : List Nat) : sx_R := sx_if (sx_and (Nat.blt n 256) (sx_and (Nat.blt cs 600002) (Nat.ble (Nat.add ss len) 7302232)))
  (sx_wrK h n (hd, ct) (fun h => sx_fo (Nat.add pc ln) (fun pc' => sx_fo (Nat.add (Nat.mul 8 n) 2) (fun v => sx_fo (Nat.succ n) (fun n => sx_fo (Nat.succ cs) (fun cs => sx_fo (Nat.add ss len) (fun ss => ih d mi cd lst false pc' L (v :: S) h n sy cs ss))))))) none
noncomputable def sx_oNew : sx_R := Option.rec none (fun q => sx_mk ih d mi cd lst pc L h n sy cs ss q.1 q.2 (Nat.div q.1 256) 3 S) (sx_nth sx_cls (sx_wb w))
noncomputable def sx_oNewa (kd ln : Nat) : sx_R := sx_p1 S (fun x r => sx_ix x sy (fun x sy => sx_if (Nat.ble x 5000) (sx_fo (Nat.add kd (Nat.mul 256 x)) (fun hd => sx_mk ih d mi cd lst pc L h n sy cs ss hd 0 x ln r)) none))
/-- behind a call -/
noncomputable def sx_hnd (hh : List (Nat × Nat × Nat × Nat × Nat)) (E : Nat) : Nat := List.rec 0 (fun q _ ih => sx_if (sx_and (Nat.ble q.1 pc) (sx_and (Nat.blt pc q.2.1) (Nat.beq q.2.2.2.1 E))) (Nat.succ q.2.2.1) ih) hh
noncomputable def sx_thr (hid E : Nat) (h : sx_H) (n : Nat) (sy : sx_Y) (cs ss : Nat) : sx_R :=
  sx_if (Nat.beq hid 0) (some [(Nat.add 2 E, 0, h, n, sy, cs, ss)])
    (Option.rec none (fun hh => sx_fo (sx_hnd pc hh E) (fun t => sx_if (Nat.beq t 0) none
      (sx_fo (sx_ft cd (Nat.pred t)) (fun w => sx_if (sx_and (Nat.beq (sx_op w) 3) (sx_and (Nat.beq (Nat.div (sx_wb w) 16) 1) (sx_and (sx_if (Nat.beq (sx_wa w) 0) true (!Nat.beq (sx_tg (sx_ln L (Nat.pred (sx_wa w)))) 4)) (Nat.blt (sx_wa w) (List.length L)))))
        (sx_fo (Nat.add (Nat.pred t) (Nat.mod (sx_wb w) 16)) (fun pc' => sx_stK 7 L (sx_wa w) (fun L => ih d mi cd lst false pc' L [] h n sy cs ss))) none)))) (sx_nth sx_hands hid))
noncomputable def sx_cont (rest : List Nat) (hid : Nat) (outs : List sx_O) : sx_R := List.rec (some []) (fun o _ acc => sx_app (Prod.rec (fun kd q => Prod.rec (fun v q => Prod.rec (fun h q => Prod.rec (fun n q => Prod.rec (fun sy q => Prod.rec (fun cs ss =>
  sx_if (Nat.beq kd 0) (sx_fo (Nat.add pc 3) (fun pc' => ih d mi cd lst false pc' L rest h n sy cs ss))
    (sx_if (Nat.beq kd 1) (sx_fo (Nat.add pc 3) (fun pc' => ih d mi cd lst false pc' L (v :: rest) h n sy cs ss)) (sx_thr ih d mi cd lst pc L hid (Nat.sub kd 2) h n sy cs ss))) q) q) q) q) q) o) acc) outs
noncomputable def sx_call (av rest : List Nat) (mj : Nat) : sx_R := Nat.rec none (fun d' _ => sx_mtK mj (fun cj fj => sx_mtK mi (fun _ f =>
  sx_if (sx_and (sx_and (Nat.blt 0 cj) (Nat.ble (Nat.add (Nat.mul 2 (List.length rest)) (sx_im fj)) 89)) (sx_and (Nat.ble cs 600002) (Nat.ble ss 7302232)))
    (Option.rec none (fun Lj => Option.rec none (fun outs => sx_cont ih d mi cd lst pc L rest (sx_ihd f) outs)
      (ih d' mj cj [] false 0 Lj [] h n sy cs ss)) (sx_xp av (sx_im fj))) none))) d
noncomputable def sx_oInv (vt : Bool) : sx_R := sx_fo (sx_wc w) (fun mj => sx_mtK mj (fun _ fj => sx_tk (sx_ia fj) S [] (fun av rest => sx_if vt
  (sx_p1 av (fun o _ => sx_if (sx_and (Nat.beq (sx_tg o) 2) (Nat.blt (sx_pl o) n)) (sx_rdK h (sx_pl o) (fun hd _ => sx_if (Nat.beq (Nat.mod (Nat.shiftRight (sx_wb w) (Nat.mod hd 256)) 2) 1) (sx_call ih d mi cd lst pc L h n sy cs ss av rest mj) none)) none))
  (sx_call ih d mi cd lst pc L h n sy cs ss av rest mj))))
noncomputable def sx_oInvI : sx_R := sx_fo (sx_wc w) (fun mj => sx_mtK mj (fun _ fj => sx_tk (sx_ia fj) S [] (fun av rest => sx_p1 av (fun o _ => sx_if (sx_and (Nat.beq (sx_tg o) 2) (Nat.blt (sx_pl o) n)) (sx_call ih d mi cd lst pc L h n sy cs ss av rest mj) none))))
noncomputable def sx_oObj : sx_R := sx_p1 S (fun o r => sx_if (sx_and (Nat.beq (sx_tg o) 2) (Nat.ble (List.length r) 40)) (sx_fo (Nat.add pc 3) (fun pc' => ih d mi cd lst false pc' L r h n sy cs ss)) none)
noncomputable def sx_oCpy : sx_R := sx_p1 S (fun ln r => sx_p1 r (fun dp r => sx_p1 r (fun b r => sx_p1 r (fun sp r => sx_p1 r (fun a r =>
  sx_if (sx_and (sx_and (Nat.ble (List.length r) 40) (sx_and (Nat.beq dp 0) (Nat.beq sp 0))) (sx_and (sx_and (Nat.beq (sx_tg a) 2) (Nat.blt (sx_pl a) n)) (sx_and (Nat.beq (sx_tg b) 2) (Nat.blt (sx_pl b) n))))
    (sx_rdK h (sx_pl a) (fun hda cta => sx_rdK h (sx_pl b) (fun hdb _ => sx_if (sx_and (sx_and (Nat.beq (Nat.mod hda 256) 100) (Nat.beq hda hdb)) (sx_and (Nat.blt (Nat.div hda 256) 2147483648) (Nat.beq ln (Nat.mul 8 (Nat.div hda 256)))))
      (sx_wrK h (sx_pl b) (hdb, cta) (fun h => sx_fo (Nat.add pc 3) (fun pc' => ih d mi cd lst false pc' L r h n sy cs ss))) none))) none)))))
noncomputable def sx_nil (S : List Nat) (r : sx_R) : sx_R := List.rec r (fun _ _ _ => none) S
noncomputable def sx_oRet : sx_R := sx_p1 S (fun v r => sx_if (sx_if (Nat.beq (sx_wa w) 0) (Nat.ble (sx_tg v) 1) (sx_if (Nat.beq (sx_wa w) 1) (sx_and (Nat.beq (sx_tg v) 0) (Nat.ble (sx_pl v) 1)) (Nat.beq (sx_tg v) 4))) (sx_nil r (some [(1, v, h, n, sy, cs, ss)])) none)
noncomputable def sx_oThrow : sx_R := sx_mtK mi (fun _ f => sx_if (sx_and (Nat.beq (sx_ihd f) 0) (sx_and (Nat.ble (List.length S) 40) (sx_and (Nat.blt cs 600002) (Nat.ble (Nat.add ss 6) 7302232)))) (sx_fo (Nat.succ cs) (fun cs => sx_fo (Nat.add ss 6) (fun ss => some [(Nat.add 2 (Nat.mod (sx_wb w) 16), 0, h, n, sy, cs, ss)]))) none)
noncomputable def sx_oDup : sx_R := sx_p1 S (fun v r => sx_if (Nat.beq (sx_tg v) 4) none (sx_fo (Nat.succ pc) (fun pc' => ih d mi cd lst false pc' L (v :: v :: r) h n sy cs ss)))
noncomputable def sx_oDup2 : sx_R := sx_p1 S (fun v r => sx_fo (Nat.succ pc) (fun pc' => sx_if (Nat.beq (sx_tg v) 4) (ih d mi cd lst false pc' L (v :: v :: r) h n sy cs ss) (sx_p1 r (fun u r => sx_if (Nat.beq (sx_tg u) 4) none (ih d mi cd lst false pc' L (v :: u :: v :: u :: r) h n sy cs ss)))))
noncomputable def sx_oPop : sx_R := sx_p1 S (fun v r => sx_if (Nat.beq (sx_tg v) 4) none (sx_fo (Nat.succ pc) (fun pc' => ih d mi cd lst false pc' L r h n sy cs ss)))
/-- 0 ineg, 1 i2l, 2 l2i -/
noncomputable def sx_oUn : sx_R := sx_p1 S (fun v r => sx_fo (Nat.succ pc) (fun pc' => sx_if (Nat.beq (sx_wa w) 2)
  (sx_if (Nat.beq (sx_tg v) 4) (sx_fo (sx_i (Int64.ofNat (sx_pl v)).toInt32) (fun v => ih d mi cd lst false pc' L (v :: r) h n sy cs ss)) none)
  (sx_nm sy v (fun v => sx_if (Nat.beq (sx_tg v) 0) (sx_fo (sx_if (Nat.beq (sx_wa w) 0) (sx_i (-(Int32.ofNat (sx_pl v)))) (sx_j (Int32.ofNat (sx_pl v)).toInt64)) (fun v => ih d mi cd lst false pc' L (v :: r) h n sy cs ss)) none))))
/-- 0 ladd, 1 lsub, 2 lmul, 3 ldiv, 4 lcmp -/
noncomputable def sx_lf (o : Nat) (x y : Int64) : Nat := sx_if (Nat.beq o 0) (sx_j (x + y)) (sx_if (Nat.beq o 1) (sx_j (x - y)) (sx_if (Nat.beq o 2) (sx_j (x * y)) (sx_if (Nat.beq o 3) (sx_j (x / y)) (sx_i (lg_cmp x y)))))
noncomputable def sx_oLb : sx_R := sx_p1 S (fun y r => sx_p1 r (fun x r => sx_if (sx_and (Nat.beq (sx_tg x) 4) (sx_and (Nat.beq (sx_tg y) 4) (sx_if (Nat.beq (sx_wa w) 3) (!Nat.beq (Nat.mod (sx_pl y) 18446744073709551616) 0) true)))
  (sx_fo (sx_lf (sx_wa w) (Int64.ofNat (sx_pl x)) (Int64.ofNat (sx_pl y))) (fun v => sx_fo (Nat.succ pc) (fun pc' => ih d mi cd lst false pc' L (v :: r) h n sy cs ss))) none))
/-- a table: where else, from which number on, targets -/
noncomputable def sx_tg1 (q : Nat × Nat × List Nat × Nat) (b : Nat) : Nat := sx_if (Nat.ble q.2.1 b) (Option.rec q.1 (fun t => t) (sx_nth q.2.2.1 (Nat.sub b q.2.1))) q.1
noncomputable def sx_oSw : sx_R := sx_p1 S (fun v r => Option.rec none (fun q => sx_nm sy v (fun v => sx_if (Nat.beq (sx_tg v) 0) (sx_fo (sx_tg1 q (sx_bs (sx_pl v))) (fun pc' => ih d mi cd lst false pc' L r h n sy cs ss))
  (sx_if (Nat.beq (sx_tg v) 1) (Option.rec none (fun e =>
    sx_app (sx_if (Nat.beq q.2.1 0) (some []) (sx_rf sy (sx_pl v) e.1 (sx_mn e.2.1 (Nat.pred q.2.1)) (fun sy => ih d mi cd lst false q.1 L r h n sy cs ss)))
      (sx_app (sx_rf sy (sx_pl v) (sx_mx e.1 (Nat.add q.2.1 (List.length q.2.2.1))) e.2.1 (fun sy => ih d mi cd lst false q.1 L r h n sy cs ss))
        (sx_fo (sx_mx e.1 q.2.1) (fun lo => sx_fo (sx_mn e.2.1 (Nat.pred (Nat.add q.2.1 (List.length q.2.2.1)))) (fun hi => sx_en sy (sx_pl v) lo hi (fun sy => Option.rec none (fun e => sx_fo (sx_tg1 q e.1) (fun pc' => ih d mi cd lst false pc' L r h n sy cs ss)) (sx_nth sy (sx_pl v)))))))) (sx_nth sy (sx_pl v))) none))) (sx_nth sx_tsw (sx_wa w)))
/-- a String is named -/
noncomputable def sx_oLdcS : sx_R := sx_if (Nat.blt (sx_wa w) sx_ns) (sx_fo (Nat.add pc (sx_wb w)) (fun pc' => sx_fo (Nat.add (Nat.mul 8 (Nat.add 2 (sx_wa w))) 5) (fun v => ih d mi cd lst false pc' L (v :: S) h n sy cs ss))) none
noncomputable def sx_oGets : sx_R := sx_fo (Nat.add pc 3) (fun pc' => sx_fo (sx_wc w) (fun v => ih d mi cd lst false pc' L (v :: S) h n sy cs ss))
noncomputable def sx_isS (v : Nat) : Bool := sx_and (Nat.beq (sx_tg v) 5) (sx_and (Nat.ble 2 (sx_pl v)) (Nat.blt (sx_pl v) (Nat.add 2 sx_ns)))
/-- a field of a String's: 0 its coder, 1 its bytes -/
noncomputable def sx_oSget : sx_R := sx_p1 S (fun v r => sx_if (sx_isS v)
  (sx_fo (Nat.add pc 3) (fun pc' => sx_if (Nat.beq (sx_wb w) 0) (ih d mi cd lst false pc' L (0 :: r) h n sy cs ss) (sx_fo (Nat.add (Nat.mul 8 (Nat.add (sx_pl v) sx_ns)) 5) (fun v => ih d mi cd lst false pc' L (v :: r) h n sy cs ss)))) none)
noncomputable def sx_isB (v : Nat) : Bool := sx_and (Nat.beq (sx_tg v) 5) (Nat.ble (Nat.add 2 sx_ns) (sx_pl v))
noncomputable def sx_oBald : sx_R := sx_p1 S (fun i r => sx_p1 r (fun a r => sx_if (sx_isB a)
  (Option.rec none (fun t => sx_ix i sy (fun x sy => Option.rec none (fun z => sx_fo (Nat.succ pc) (fun pc' => sx_fo (Nat.mul 8 z) (fun v => ih d mi cd lst false pc' L (v :: r) h n sy cs ss))) (sx_nth t x))) (sx_nth sx_sb (Nat.sub (sx_pl a) (Nat.add 2 sx_ns)))) none))
noncomputable def sx_oIald : sx_R := sx_p1 S (fun i r => sx_p1 r (fun a r => sx_if (Nat.beq a 13)
  (sx_ix i sy (fun x sy => Option.rec none (fun z => sx_fo (Nat.succ pc) (fun pc' => sx_fo (Nat.mul 8 z) (fun v => ih d mi cd lst false pc' L (v :: r) h n sy cs ss))) (sx_nth sx_ordv x)))
  (sx_oAld ih N d mi cd lst pc L S h n sy cs ss 100)))
noncomputable def sx_oAlenX : sx_R := sx_p1 S (fun a r => sx_if (sx_isB a)
  (Option.rec none (fun t => sx_fo (Nat.succ pc) (fun pc' => sx_fo (Nat.mul 8 (List.length t)) (fun v => ih d mi cd lst false pc' L (v :: r) h n sy cs ss))) (sx_nth sx_sb (Nat.sub (sx_pl a) (Nat.add 2 sx_ns))))
  (sx_oAlen ih N d mi cd lst pc L S h n sy cs ss))
noncomputable def sx_oInvX : sx_R := sx_fo (sx_wc w) (fun mj => sx_mtK mj (fun _ fj => sx_tk (sx_ia fj) S [] (fun av rest => sx_p1 av (fun o _ => sx_if (sx_isS o) (sx_call ih d mi cd lst pc L h n sy cs ss av rest mj) none))))
/-- a call with two targets: a word for each -/
def sx_w1 (w : Nat) : Nat := Nat.add (Nat.mod w 549755813888) (Nat.mul 549755813888 (Nat.mod (sx_wc w) 1024))
def sx_w2 (w : Nat) : Nat := Nat.add (Nat.add (Nat.mod w 8388608) (Nat.mul 8388608 (Nat.mod (Nat.div (sx_wc w) 1024) 4096))) (Nat.mul 549755813888 (Nat.div (sx_wc w) 4194304))
noncomputable def sx_oInvW : sx_R := sx_p1 S (fun o _ => sx_rdK h (sx_pl o) (fun hd _ => sx_if (Nat.beq (Nat.mod (Nat.shiftRight (sx_wb w) (Nat.mod hd 256)) 2) 1)
  (sx_fo (sx_w1 w) (fun w => sx_oInv ih w d mi cd lst pc L S h n sy cs ss true)) (sx_fo (sx_w2 w) (fun w => sx_oInv ih w d mi cd lst pc L S h n sy cs ss true))))
noncomputable def sx_oLcon : sx_R := Option.rec none (fun t => sx_fo (sx_j t.2.2) (fun v => sx_fo (Nat.add pc 3) (fun pc' => ih d mi cd lst false pc' L (v :: S) h n sy cs ss))) (sx_nth sx_cg (sx_wa w))
noncomputable def sx_oI2c : sx_R := sx_p1 S (fun v r => sx_nm sy v (fun v => sx_if (sx_and (Nat.beq (sx_tg v) 0) (Nat.blt (sx_pl v) 65536)) (sx_fo (Nat.succ pc) (fun pc' => ih d mi cd lst false pc' L (v :: r) h n sy cs ss)) none))
/-- an end with a byte (0) or a char (1) -/
noncomputable def sx_oRetN : sx_R := sx_p1 S (fun v r => sx_if (sx_and (Nat.beq (sx_tg v) 0) (Nat.blt (sx_pl v) (sx_if (Nat.beq (sx_wa w) 0) 128 65536))) (sx_nil r (some [(1, v, h, n, sy, cs, ss)])) none)
end SXStep
end
section
/-! sx: loops' heads, and the run -/
noncomputable def sx_rng (sy : sx_Y) (v lo hi : Nat) : Bool := sx_if (Nat.beq (sx_tg v) 0) (sx_and (Nat.ble lo (sx_bs (sx_pl v))) (Nat.ble (sx_bs (sx_pl v)) hi))
  (sx_if (Nat.beq (sx_tg v) 1) (Option.rec false (fun e => sx_and (Nat.ble lo e.1) (Nat.ble e.2.1 hi)) (sx_nth sy (sx_pl v))) false)
noncomputable def sx_res (ty i j k n : Nat) (L : List Nat) (h : sx_H) (K : Nat → Nat → sx_R) : sx_R :=
  sx_if (Nat.beq ty 0) (sx_fo (Nat.add 256 i) (fun c => K c 0))
    (sx_fo (sx_ln L i) (fun v => sx_if (sx_and (Nat.beq (sx_tg v) 2) (Nat.blt (sx_pl v) n)) (sx_if (Nat.beq ty 1) (sx_fo (sx_pl v) (fun c => K c j))
      (sx_rdK h (sx_pl v) (fun _ ct => sx_fo (sx_get ct j) (fun v => sx_if (Nat.beq (sx_tg v) 2) (sx_fo (sx_pl v) (fun c => K c k)) none)))) none))
/-- locals: where the head knows none, any -/
noncomputable def sx_lle (a : List Nat) : List Nat → Bool := List.rec (fun b => List.rec true (fun _ _ _ => false) b) (fun x _ ih b => List.rec false (fun y t _ => sx_and (sx_if (Nat.beq y 7) true (Nat.beq x y)) (ih t)) b) a
noncomputable def sx_q4 {α : Type} (eq : α → α → Bool) (t u : sx_Q α) : Bool := Prod.rec (fun a r => Prod.rec (fun b r => Prod.rec (fun c d => Prod.rec (fun a2 r => Prod.rec (fun b2 r => Prod.rec (fun c2 d2 => sx_and (eq a a2) (sx_and (eq b b2) (sx_and (eq c c2) (eq d d2)))) r) r) u) r) r) t
noncomputable def sx_heq (t u : sx_H) : Bool := sx_q4 (sx_q4 (sx_q4 (sx_q4 (fun a b => Prod.rec (fun x y => Prod.rec (fun x2 y2 => sx_and (Nat.beq x x2) (Nat.beq y y2)) b) a)))) t u
noncomputable def sx_rk (sy : sx_Y) (v v0 : Nat) : Bool := sx_and (Nat.beq (sx_tg v) 1) (sx_and (Nat.beq (sx_tg v0) 1) (Option.rec false (fun e => sx_and (Nat.beq e.2.2.1 (Nat.succ (sx_pl v0))) (Nat.blt 0 e.2.2.2)) (sx_nth sy (sx_pl v))))
noncomputable def sx_fnd (l : List sx_I) (pc : Nat) : Option sx_I := List.rec none (fun q _ ih => sx_if (Nat.beq q.1 pc) (some q) ih) l
noncomputable def sx_fiv (l : List (Nat × Nat × Nat × List (Nat × Nat × Nat × Nat × Nat × Nat))) (mi pc : Nat) : Option (Nat × List (Nat × Nat × Nat × Nat × Nat × Nat)) := List.rec none (fun q _ ih => sx_if (sx_and (Nat.beq q.1 mi) (Nat.beq q.2.1 pc)) (some q.2.2) ih) l
noncomputable def sx_nil' (S : List Nat) (r : sx_R) : sx_R := List.rec r (fun _ _ _ => none) S
/-- a place c, j of the cells becomes the value u, where it lies in lo to hi; so does the local r become v -/
noncomputable def sx_pla (c j u lo hi r v lr hr n : Nat) (sy : sx_Y) (L : List Nat) (h : sx_H) (K : List Nat → sx_H → sx_R) : sx_R :=
  sx_if (sx_and (sx_rng sy (sx_ln L r) lr hr) (sx_and (Nat.blt r (List.length L)) (sx_and (Nat.blt c n) (Nat.ble u 1000000))))
    (sx_rdK h c (fun hd ct => sx_if (sx_and (Nat.ble (Nat.mod hd 256) 100) (sx_and (Nat.blt j (Nat.div hd 256)) (sx_rng sy (sx_get ct j) lo hi)))
      (sx_fo (sx_set ct j u) (fun ct' => sx_wrK h c (hd, ct') (fun h => sx_stK v L r (fun L => K L h)))) none)) none
/-- back at a head that stands open: what is there is one of its states, and its rank is less -/
noncomputable def sx_bck (e : sx_I) (L S : List Nat) (h : sx_H) (n : Nat) (sy : sx_Y) (cs ss : Nat) : sx_R :=
  Prod.rec (fun _ q => Prod.rec (fun L0 q => Prod.rec (fun _ q => Prod.rec (fun h0 q => Prod.rec (fun n0 q => Prod.rec (fun sy0 q => Prod.rec (fun k0 q => Prod.rec (fun r q => Prod.rec (fun pl q => Prod.rec (fun cs0 ss0 =>
    sx_if (sx_and (sx_rk sy (sx_ln L r) (sx_ln L0 r)) (sx_and (Nat.beq n n0) (sx_and (Nat.beq cs cs0) (Nat.beq ss ss0))))
      (sx_nil' S (List.rec none (fun z _ _ => Option.rec none (fun e1 => Option.rec none (fun e2 => sx_pla z.1 z.2.1 (Nat.add (Nat.mul 8 (Nat.succ k0)) 1) e2.1 e2.2.1 r (Nat.add (Nat.mul 8 k0) 1) e1.1 e1.2.1 n sy L h (fun L h => sx_if (sx_and (sx_lle L L0) (sx_heq h h0)) (some []) none)) (sx_nth sy0 (Nat.succ k0))) (sx_nth sy0 k0)) pl)) none) q) q) q) q) q) q) q) q) q) e
section SXRun
variable (ih : sx_ih) (N w d mi cd : Nat) (lst : List sx_I) (pc : Nat) (L S : List Nat) (h : sx_H) (n : Nat) (sy : sx_Y) (cs ss : Nat)
noncomputable def sx_open (r : Nat) (e1 e2 : Nat × Nat × Nat × Nat × Nat × Nat) : sx_R := sx_fo (List.length sy) (fun k0 => sx_nil' S (sx_res e2.1 e2.2.1 e2.2.2.1 e2.2.2.2.1 n L h (fun c j =>
  sx_pla c j (Nat.add (Nat.mul 8 (Nat.succ k0)) 1) e2.2.2.2.2.1 e2.2.2.2.2.2 r (Nat.add (Nat.mul 8 k0) 1) e1.2.2.2.2.1 e1.2.2.2.2.2 n sy L h (fun L' h' => sx_fo e1.2.2.2.2.1 (fun l1 => sx_fo e1.2.2.2.2.2 (fun u1 => sx_fo e2.2.2.2.2.1 (fun l2 => sx_fo e2.2.2.2.2.2 (fun u2 =>
    ih d mi cd ((pc, L', [], h', n, sy ++ [(l1, u1, 0, 0), (l2, u2, 0, 0)], k0, r, [(c, j, 0)], cs, ss) :: lst) true pc L' [] h' n (sy ++ [(l1, u1, 0, 0), (l2, u2, 0, 0)]) cs ss))))))))
noncomputable def sx_head : sx_R := Option.rec
  (Option.rec none (fun q => List.rec none (fun e1 t _ => List.rec none (fun e2 _ _ => sx_open ih d mi cd lst pc L S h n sy cs ss q.1 e1 e2) t) q.2) (sx_fiv sx_ivs mi pc))
  (fun e => sx_bck e L S h n sy cs ss) (sx_fnd lst pc)
noncomputable def sx_body : sx_R := sx_fo (sx_op w) (fun o =>
  sx_if (Nat.beq o 2) (sx_oLoad ih w d mi cd lst pc L S h n sy cs ss)
  (sx_if (Nat.beq o 1) (sx_oConst ih w d mi cd lst pc L S h n sy cs ss)
  (sx_if (Nat.beq o 9) (sx_oGet ih w d mi cd lst pc L S h n sy cs ss)
  (sx_if (Nat.beq o 7) (sx_oIcmp ih w d mi cd lst pc L S h n sy cs ss)
  (sx_if (Nat.beq o 6) (sx_oIf ih w d mi cd lst pc L S h n sy cs ss)
  (sx_if (Nat.beq o 11) (sx_oIald ih N d mi cd lst pc L S h n sy cs ss)
  (sx_if (Nat.beq o 8) (sx_oGoto ih w d mi cd lst L S h n sy cs ss)
  (sx_if (Nat.beq o 5) (sx_oIinc ih w d mi cd lst pc L S h n sy cs ss)
  (sx_if (Nat.beq o 3) (sx_oStore ih w d mi cd lst pc L S h n sy cs ss)
  (sx_if (Nat.beq o 26) (sx_oRet w S h n sy cs ss)
  (sx_if (Nat.beq o 21) (sx_oInv ih w d mi cd lst pc L S h n sy cs ss true)
  (sx_if (Nat.beq o 4) (sx_oBin ih w d mi cd lst pc L S h n sy cs ss)
  (sx_if (Nat.beq o 12) (sx_oAst ih d mi cd lst pc L S h n sy cs ss 100)
  (sx_if (Nat.beq o 22) (sx_oInv ih w d mi cd lst pc L S h n sy cs ss false)
  (sx_if (Nat.beq o 27) (sx_nil S (some [(0, 0, h, n, sy, cs, ss)]))
  (sx_if (Nat.beq o 10) (sx_oPut ih w d mi cd lst pc L S h n sy cs ss)
  (sx_if (Nat.beq o 29) (sx_oDup ih d mi cd lst pc L S h n sy cs ss)
  (sx_if (Nat.beq o 30) (sx_oDup2 ih d mi cd lst pc L S h n sy cs ss)
  (sx_if (Nat.beq o 31) (sx_oPop ih d mi cd lst pc L S h n sy cs ss)
  (sx_if (Nat.beq o 13) (sx_oAld ih N d mi cd lst pc L S h n sy cs ss 101)
  (sx_if (Nat.beq o 14) (sx_oAst ih d mi cd lst pc L S h n sy cs ss 101)
  (sx_if (Nat.beq o 15) (sx_oAld ih N d mi cd lst pc L S h n sy cs ss 102)
  (sx_if (Nat.beq o 16) (sx_oAst ih d mi cd lst pc L S h n sy cs ss 102)
  (sx_if (Nat.beq o 17) (sx_oAlenX ih N d mi cd lst pc L S h n sy cs ss)
  (sx_if (Nat.beq o 18) (sx_oNew ih w d mi cd lst pc L S h n sy cs ss)
  (sx_if (Nat.beq o 19) (sx_oNewa ih d mi cd lst pc L S h n sy cs ss (Nat.add 100 (sx_wa w)) 2)
  (sx_if (Nat.beq o 20) (sx_oNewa ih d mi cd lst pc L S h n sy cs ss 102 3)
  (sx_if (Nat.beq o 23) (sx_oInvI ih w d mi cd lst pc L S h n sy cs ss)
  (sx_if (Nat.beq o 24) (sx_oObj ih d mi cd lst pc L S h n sy cs ss)
  (sx_if (Nat.beq o 25) (sx_oCpy ih d mi cd lst pc L S h n sy cs ss)
  (sx_if (Nat.beq o 28) (sx_oThrow w mi S h n sy cs ss)
  (sx_if (Nat.beq o 32) (sx_oUn ih w d mi cd lst pc L S h n sy cs ss)
  (sx_if (Nat.beq o 35) (sx_oLb ih w d mi cd lst pc L S h n sy cs ss)
  (sx_if (Nat.beq o 37) (sx_oSw ih w d mi cd lst L S h n sy cs ss)
  (sx_if (Nat.beq o 39) (sx_oInvX ih w d mi cd lst pc L S h n sy cs ss)
  (sx_if (Nat.beq o 38) (sx_oSget ih w d mi cd lst pc L S h n sy cs ss)
  (sx_if (Nat.beq o 33) (sx_oLdcS ih w d mi cd lst pc L S h n sy cs ss)
  (sx_if (Nat.beq o 34) (sx_oGets ih w d mi cd lst pc L S h n sy cs ss)
  (sx_if (Nat.beq o 36) (sx_oBald ih d mi cd lst pc L S h n sy cs ss)
  (sx_if (Nat.beq o 42) (sx_oI2c ih d mi cd lst pc L S h n sy cs ss)
  (sx_if (Nat.beq o 43) (sx_oRetN w S h n sy cs ss)
  (sx_if (Nat.beq o 40) (sx_oInvW ih w d mi cd lst pc L S h n sy cs ss)
  (sx_if (Nat.beq o 41) (sx_oLcon ih w d mi cd lst pc L S h n sy cs ss) none)))))))))))))))))))))))))))))))))))))))))))
noncomputable def sx_step (fl : Bool) : sx_R := sx_fo (sx_ft cd pc) (fun w => sx_if (sx_if fl true (Nat.beq (sx_wh w) 0)) (sx_body ih N w d mi cd lst pc L S h n sy cs ss) (sx_head ih d mi cd lst pc L S h n sy cs ss))
end SXRun
noncomputable def sx_run (N fuel : Nat) : sx_ih := Nat.rec (fun _ _ _ _ _ _ _ _ _ _ _ _ _ => none) (fun _ ih d mi cd lst fl pc L S h n sy cs ss => sx_step ih N d mi cd lst pc L S h n sy cs ss fl) fuel
end
section
/-! sx: what the executor's numbers mean on the machine -/
/-- an int, with 2^31 more -/
def sx_b (z : Int32) : Nat := (z.toInt + 2147483648).toNat
def sx_V (b : Nat → Nat) (ad : List Nat) (rs : List Int32) (v : Nat) (x : Value) : Prop :=
  (v % 8 = 0 ∧ x = .int (Int32.ofNat (v / 8))) ∨ (v % 8 = 1 ∧ ∃ z, rs[v / 8]? = some z ∧ x = .int z) ∨ (v % 8 = 2 ∧ ∃ a, ad[v / 8]? = some a ∧ x = .ref a) ∨ (v % 8 = 3 ∧ x = .null) ∨ (v % 8 = 4 ∧ x = .long (Int64.ofNat (v / 8))) ∨ (v % 8 = 5 ∧ x = .ref (b (v / 8))) ∨ (v = 15 ∧ x.category = 1)
theorem sx_pre {α : Type} {l l' : List α} (h : l <+: l') {k : Nat} {x : α} (hx : l[k]? = some x) : l'[k]? = some x := by
  obtain ⟨t, rfl⟩ := h
  rw [List.getElem?_append_left (List.getElem?_eq_some_iff.mp hx).1]
  exact hx
theorem sx_V.mono {b : Nat → Nat} {ad ad' : List Nat} {rs rs' : List Int32} {v : Nat} {x : Value} (h : sx_V b ad rs v x) (ha : ad <+: ad') (hr : rs <+: rs') : sx_V b ad' rs' v x := by
  rcases h with h | ⟨h, z, h1, h2⟩ | ⟨h, a, h1, h2⟩ | h | h | h | h
  · exact Or.inl h
  · exact Or.inr (Or.inl ⟨h, z, sx_pre hr h1, h2⟩)
  · exact Or.inr (Or.inr (Or.inl ⟨h, a, sx_pre ha h1, h2⟩))
  · exact Or.inr (Or.inr (Or.inr (Or.inl h)))
  · exact Or.inr (Or.inr (Or.inr (Or.inr (Or.inl h))))
  · exact Or.inr (Or.inr (Or.inr (Or.inr (Or.inr (Or.inl h)))))
  · exact Or.inr (Or.inr (Or.inr (Or.inr (Or.inr (Or.inr h)))))
theorem sx_V.t0 {b : Nat → Nat} {ad : List Nat} {rs : List Int32} {v : Nat} {x : Value} (h : sx_V b ad rs v x) (ht : v % 8 = 0) : x = .int (Int32.ofNat (v / 8)) := by
  rcases h with h | ⟨h, -⟩ | ⟨h, -⟩ | ⟨h, -⟩ | ⟨h, -⟩ | ⟨h, -⟩ | ⟨h, -⟩ <;> first | exact h.2 | omega
theorem sx_V.t1 {b : Nat → Nat} {ad : List Nat} {rs : List Int32} {v : Nat} {x : Value} (h : sx_V b ad rs v x) (ht : v % 8 = 1) : ∃ z, rs[v / 8]? = some z ∧ x = .int z := by
  rcases h with ⟨h, -⟩ | h | ⟨h, -⟩ | ⟨h, -⟩ | ⟨h, -⟩ | ⟨h, -⟩ | ⟨h, -⟩ <;> first | exact h.2 | omega
theorem sx_V.t2 {b : Nat → Nat} {ad : List Nat} {rs : List Int32} {v : Nat} {x : Value} (h : sx_V b ad rs v x) (ht : v % 8 = 2) : ∃ a, ad[v / 8]? = some a ∧ x = .ref a := by
  rcases h with ⟨h, -⟩ | ⟨h, -⟩ | h | ⟨h, -⟩ | ⟨h, -⟩ | ⟨h, -⟩ | ⟨h, -⟩ <;> first | exact h.2 | omega
theorem sx_V.t4 {b : Nat → Nat} {ad : List Nat} {rs : List Int32} {v : Nat} {x : Value} (h : sx_V b ad rs v x) (ht : v % 8 = 4) : x = .long (Int64.ofNat (v / 8)) := by
  rcases h with ⟨h, -⟩ | ⟨h, -⟩ | ⟨h, -⟩ | ⟨h, -⟩ | h | ⟨h, -⟩ | ⟨h, -⟩ <;> first | exact h.2 | omega
theorem sx_V.t5 {b : Nat → Nat} {ad : List Nat} {rs : List Int32} {v : Nat} {x : Value} (h : sx_V b ad rs v x) (ht : v % 8 = 5) : x = .ref (b (v / 8)) := by
  rcases h with ⟨h, -⟩ | ⟨h, -⟩ | ⟨h, -⟩ | ⟨h, -⟩ | ⟨h, -⟩ | h | ⟨h, -⟩ <;> first | exact h.2 | omega
theorem sx_V.i {b : Nat → Nat} {ad : List Nat} {rs : List Int32} {v : Nat} {x : Value} (h : sx_V b ad rs v x) (ht : v % 8 ≤ 1) : ∃ z, x = .int z := by
  rcases (show v % 8 = 0 ∨ v % 8 = 1 by omega) with q | q
  · exact ⟨_, h.t0 q⟩
  · obtain ⟨z, -, hz⟩ := h.t1 q; exact ⟨z, hz⟩
theorem sx_V.c1 {b : Nat → Nat} {ad : List Nat} {rs : List Int32} {v : Nat} {x : Value} (h : sx_V b ad rs v x) (ht : v % 8 ≠ 4) : x.category = 1 := by
  rcases h with ⟨-, rfl⟩ | ⟨-, z, -, rfl⟩ | ⟨-, a, -, rfl⟩ | ⟨-, rfl⟩ | ⟨h, -⟩ | ⟨-, rfl⟩ | ⟨-, h⟩ <;> first | rfl | exact absurd h ht | exact h
theorem sx_V.c2 {b : Nat → Nat} {ad : List Nat} {rs : List Int32} {v : Nat} {x : Value} (h : sx_V b ad rs v x) : x.category ≤ 2 := by
  rcases h with ⟨-, rfl⟩ | ⟨-, z, -, rfl⟩ | ⟨-, a, -, rfl⟩ | ⟨-, rfl⟩ | ⟨-, rfl⟩ | ⟨-, rfl⟩ | ⟨-, h⟩ <;> first | (rw [h]; decide) | simp [Value.category]
theorem sx_V.n7 {b : Nat → Nat} {ad : List Nat} {rs : List Int32} {v : Nat} {x : Value} (h : sx_V b ad rs v x) : v ≠ 7 := by
  rintro rfl
  rcases h with ⟨h, -⟩ | ⟨h, -⟩ | ⟨h, -⟩ | ⟨h, -⟩ | ⟨h, -⟩ | ⟨h, -⟩ | ⟨h, -⟩ <;> omega
/-- a cell -/
def sx_E (K : ClassId → FieldType → Prop) (b : Nat → Nat) (ad : List Nat) (rs : List Int32) (c : Nat × Nat) (e : va_E) : Prop :=
  (∃ ci fs, e = .inr (ci, fs) ∧ c.1 % 256 = ci ∧ (∃ C, sx_classes[ci]? = some C ∧ C.2.2 = fs.length) ∧ fs.length = c.1 / 256 ∧ ∀ j v, fs[j]? = some v → sx_V b ad rs (sx_get c.2 j) v) ∨
  (∃ cA f, e = .inl (cA, c.1 / 256, .inl f) ∧ c.1 % 256 = 100 ∧ (K cA .int ∧ c.1 / 256 ≤ 5000) ∧ ∀ j, j < c.1 / 256 → sx_V b ad rs (sx_get c.2 j) (.int (f j))) ∨
  (∃ cA f, e = .inl (cA, c.1 / 256, .inr (.inl f)) ∧ c.1 % 256 = 101 ∧ (K cA .long ∧ c.1 / 256 ≤ 5000) ∧ ∀ j, j < c.1 / 256 → sx_get c.2 j % 8 = 0 ∧ f j = Int64.ofNat (sx_get c.2 j / 8)) ∨
  (∃ cA f, e = .inl (cA, c.1 / 256, .inr (.inr (.inr (.inr f)))) ∧ c.1 % 256 = 102 ∧ (K cA (.object "AbsentRings$Table") ∧ c.1 / 256 ≤ 5000) ∧ ∀ j, j < c.1 / 256 → (sx_get c.2 j = 0 ∧ f j = none) ∨ ∃ q, f j = some q ∧ sx_get c.2 j % 8 = 2 ∧ ad[sx_get c.2 j / 8]? = some q)
theorem sx_E.mono {K : ClassId → FieldType → Prop} {b : Nat → Nat} {ad ad' : List Nat} {rs rs' : List Int32} {c : Nat × Nat} {e : va_E} (h : sx_E K b ad rs c e) (ha : ad <+: ad') (hr : rs <+: rs') : sx_E K b ad' rs' c e := by
  rcases h with ⟨ci, fs, h1, h2, h3, h4, h5⟩ | ⟨cA, f, h1, h2, h3, h4⟩ | h | ⟨cA, f, h1, h2, h3, h4⟩
  · exact Or.inl ⟨ci, fs, h1, h2, h3, h4, fun j v hv => (h5 j v hv).mono ha hr⟩
  · exact Or.inr (Or.inl ⟨cA, f, h1, h2, h3, fun j hj => (h4 j hj).mono ha hr⟩)
  · exact Or.inr (Or.inr (Or.inl h))
  · refine Or.inr (Or.inr (Or.inr ⟨cA, f, h1, h2, h3, fun j hj => ?_⟩))
    rcases h4 j hj with q | ⟨q, q1, q2, q3⟩
    · exact Or.inl q
    · exact Or.inr ⟨q, q1, q2, sx_pre ha q3⟩
/-- the cells -/
def sx_G (D : va_G) (K : ClassId → FieldType → Prop) (b : Nat → Nat) (A : Nat → Prop) (ad : List Nat) (rs : List Int32) (h : sx_H) (n : Nat) (H : Heap) : Prop :=
  ∃ ws : va_W, va_P D sx_classes ws H ∧ va_D A ws ∧ ws.map Prod.fst = ad ∧ ad.length = n ∧ n ≤ 256 ∧ ∀ k q, ws[k]? = some q → sx_E K b ad rs (sx_rd h k) q.2
theorem sx_G.mono {D : va_G} {K : ClassId → FieldType → Prop} {b : Nat → Nat} {A : Nat → Prop} {ad : List Nat} {rs rs' : List Int32} {h : sx_H} {n : Nat} {H : Heap} (g : sx_G D K b A ad rs h n H) (hr : rs <+: rs') : sx_G D K b A ad rs' h n H := by
  obtain ⟨ws, h1, h2, h3, h4, h5, h6⟩ := g
  exact ⟨ws, h1, h2, h3, h4, h5, fun k q hq => (h6 k q hq).mono (List.prefix_rfl) hr⟩
theorem sx_G.weaken {D : va_G} {K : ClassId → FieldType → Prop} {b : Nat → Nat} {A B : Nat → Prop} {ad : List Nat} {rs : List Int32} {h : sx_H} {n : Nat} {H : Heap} (g : sx_G D K b A ad rs h n H) (hAB : ∀ q, q ∈ ad → A q → B q) : sx_G D K b B ad rs h n H := by
  obtain ⟨ws, h1, h2, h3, h4, h5, h6⟩ := g
  refine ⟨ws, h1, h2.weaken (fun k q hq hA => hAB _ ?_ hA), h3, h4, h5, h6⟩
  rw [← h3]
  exact List.mem_map.mpr ⟨q, List.mem_of_getElem? hq, rfl⟩
/-- a cell of the world, by its number -/
theorem sx_G.at {D : va_G} {K : ClassId → FieldType → Prop} {b : Nat → Nat} {A : Nat → Prop} {ad : List Nat} {rs : List Int32} {h : sx_H} {n : Nat} {H : Heap} (g : sx_G D K b A ad rs h n H) {k a : Nat} (hk : ad[k]? = some a) :
    ∃ (ws : va_W) (e : va_E), va_P D sx_classes ws H ∧ va_D A ws ∧ ws.map Prod.fst = ad ∧ ad.length = n ∧ n ≤ 256 ∧ (∀ k q, ws[k]? = some q → sx_E K b ad rs (sx_rd h k) q.2) ∧ ws[k]? = some (a, e) ∧ sx_E K b ad rs (sx_rd h k) e := by
  obtain ⟨ws, h1, h2, h3, h4, h5, h6⟩ := g
  have hk2 := hk
  rw [← h3, List.getElem?_map] at hk2
  cases hw : ws[k]? with
  | none => rw [hw] at hk2; cases hk2
  | some q =>
    rw [hw] at hk2
    obtain ⟨a', e⟩ := q
    have : a' = a := by simpa using hk2
    subst this
    exact ⟨ws, e, h1, h2, h3, h4, h5, h6, hw, h6 k _ hw⟩
theorem sx_map_set {ws : va_W} {k a : Nat} {e e' : va_E} (h : ws[k]? = some (a, e)) : (ws.set k (a, e')).map Prod.fst = ws.map Prod.fst := by
  apply List.ext_getElem?
  intro i
  rw [List.getElem?_map, List.getElem?_map]
  by_cases hi : i = k
  · subst hi
    rw [List.getElem?_set_self (List.getElem?_eq_some_iff.mp h).1, h]
    rfl
  · rw [List.getElem?_set_ne (Ne.symm hi)]
/-- a cell is written -/
theorem sx_G.set {D : va_G} {K : ClassId → FieldType → Prop} {b : Nat → Nat} {A : Nat → Prop} {ad : List Nat} {rs : List Int32} {h : sx_H} {n : Nat} {H1 : Heap} {ws : va_W} {k a : Nat} {e e' : va_E} {c : Nat × Nat}
    (h3 : ws.map Prod.fst = ad) (h4 : ad.length = n) (h5 : n ≤ 256) (h6 : ∀ k q, ws[k]? = some q → sx_E K b ad rs (sx_rd h k) q.2) (hw : ws[k]? = some (a, e)) (hP : va_P D sx_classes (ws.set k (a, e')) H1) (hD : va_D A (ws.set k (a, e'))) (he : sx_E K b ad rs c e') : sx_G D K b A ad rs (sx_wr h k c) n H1 := by
  have hl := (List.getElem?_eq_some_iff.mp hw).1
  have hln : ws.length = n := by rw [← h4, ← h3, List.length_map]
  refine ⟨_, hP, hD, by rw [sx_map_set hw]; exact h3, h4, h5, fun j q hq => ?_⟩
  by_cases hj : j = k
  · subst hj
    rw [List.getElem?_set_self hl] at hq
    cases hq
    rw [sx_rd_wr]
    exact he
  · have hq2 := hq
    rw [List.getElem?_set_ne (Ne.symm hj)] at hq2
    have hjl := (List.getElem?_eq_some_iff.mp hq2).1
    rw [sx_rd_wr_ne h c (by omega) (by omega) hj]
    exact h6 j q hq2
/-- a cell is made -/
theorem sx_G.push {D : va_G} {K : ClassId → FieldType → Prop} {b : Nat → Nat} {A : Nat → Prop} {ad : List Nat} {rs : List Int32} {h : sx_H} {n : Nat} {H1 : Heap} {ws : va_W} {a : Nat} {e : va_E} {c : Nat × Nat}
    (h3 : ws.map Prod.fst = ad) (h4 : ad.length = n) (h5 : n < 256) (h6 : ∀ k q, ws[k]? = some q → sx_E K b ad rs (sx_rd h k) q.2) (hP : va_P D sx_classes (ws ++ [(a, e)]) H1) (hD : va_D A (ws ++ [(a, e)])) (he : sx_E K b (ad ++ [a]) rs c e) : sx_G D K b A (ad ++ [a]) rs (sx_wr h n c) (n + 1) H1 := by
  have hln : ws.length = n := by rw [← h4, ← h3, List.length_map]
  refine ⟨_, hP, hD, by rw [List.map_append, h3]; rfl, by rw [List.length_append, h4]; rfl, by omega, fun j q hq => ?_⟩
  by_cases hj : j < ws.length
  · rw [List.getElem?_append_left hj] at hq
    rw [sx_rd_wr_ne h c (by omega) (by omega) (by omega)]
    exact (h6 j q hq).mono (List.prefix_append _ _) List.prefix_rfl
  · rw [List.getElem?_append_right (by omega)] at hq
    have hz : j - ws.length < 1 := (List.getElem?_eq_some_iff.mp hq).1
    have hj0 : j = n := by omega
    subst hj0
    rw [show j - ws.length = 0 by omega] at hq
    cases hq
    rw [sx_rd_wr]
    exact he
/-- symbols -/
def sx_Yok (rs : List Int32) (sy : sx_Y) : Prop := rs.length = sy.length ∧ ∀ (k : Nat) (z : Int32) (e : Nat × Nat × Nat × Nat), rs[k]? = some z → sy[k]? = some e → e.1 ≤ sx_b z ∧ sx_b z ≤ e.2.1 ∧ (e.2.2.1 ≠ 0 → ∃ y, rs[e.2.2.1 - 1]? = some y ∧ sx_b z = sx_b y + e.2.2.2) ∧ (e.2.2.1 = 0 → e.2.2.2 ≠ 0 → z &&& 63 = Int32.ofNat (e.2.2.2 - 1))
theorem sx_Yok.at {rs : List Int32} {sy : sx_Y} (h : sx_Yok rs sy) {k : Nat} {z : Int32} (hk : rs[k]? = some z) : ∃ e : Nat × Nat × Nat × Nat, sy[k]? = some e ∧ e.1 ≤ sx_b z ∧ sx_b z ≤ e.2.1 ∧ (e.2.2.1 ≠ 0 → ∃ y, rs[e.2.2.1 - 1]? = some y ∧ sx_b z = sx_b y + e.2.2.2) ∧ (e.2.2.1 = 0 → e.2.2.2 ≠ 0 → z &&& 63 = Int32.ofNat (e.2.2.2 - 1)) := by
  have hl := (List.getElem?_eq_some_iff.mp hk).1
  have hl2 : k < sy.length := by rw [← h.1]; exact hl
  exact ⟨sy[k], List.getElem?_eq_getElem hl2, h.2 k z _ hk (List.getElem?_eq_getElem hl2)⟩
theorem sx_Yok.rf {rs : List Int32} {sy : sx_Y} (h : sx_Yok rs sy) {k lo hi : Nat} {z : Int32} {e : Nat × Nat × Nat × Nat} (hk : rs[k]? = some z) (he : sy[k]? = some e) (h1 : lo ≤ sx_b z) (h2 : sx_b z ≤ hi) : sx_Yok rs (sy.set k (lo, hi, e.2.2.1, e.2.2.2)) := by
  refine ⟨by rw [List.length_set]; exact h.1, fun j y e' hj he' => ?_⟩
  by_cases hjk : j = k
  · subst hjk
    cases hk.symm.trans hj
    rw [List.getElem?_set_self (List.getElem?_eq_some_iff.mp he).1] at he'
    cases he'
    exact ⟨h1, h2, (h.2 j z e hk he).2.2⟩
  · rw [List.getElem?_set_ne (Ne.symm hjk)] at he'
    exact h.2 j y e' hj he'
theorem sx_Yok.fr {rs : List Int32} {sy : sx_Y} (h : sx_Yok rs sy) {lo hi pr off : Nat} {z : Int32} (h1 : lo ≤ sx_b z) (h2 : sx_b z ≤ hi) (h3 : pr ≠ 0 → ∃ y, rs[pr - 1]? = some y ∧ sx_b z = sx_b y + off) (h4 : pr = 0 → off = 0 := by first | exact fun _ => rfl | (intro h; cases h)) : sx_Yok (rs ++ [z]) (sy ++ [(lo, hi, pr, off)]) := by
  refine ⟨by rw [List.length_append, List.length_append, h.1]; rfl, fun j y e hj he => ?_⟩
  by_cases hl : j < rs.length
  · rw [List.getElem?_append_left hl] at hj
    rw [List.getElem?_append_left (by rw [← h.1]; exact hl)] at he
    obtain ⟨q1, q2, q3, q4⟩ := h.2 j y e hj he
    exact ⟨q1, q2, fun hp => by obtain ⟨w, w1, w2⟩ := q3 hp; exact ⟨w, sx_pre (List.prefix_append _ _) w1, w2⟩, q4⟩
  · have hlt : j < (rs ++ [z]).length := (List.getElem?_eq_some_iff.mp hj).1
    rw [List.length_append] at hlt
    have hj0 : j = rs.length := by simp at hlt; omega
    subst hj0
    rw [List.getElem?_append_right (Nat.le_refl _), Nat.sub_self] at hj
    rw [List.getElem?_append_right (by rw [h.1]; exact Nat.le_refl _), h.1, Nat.sub_self] at he
    cases hj
    cases he
    exact ⟨h1, h2, fun hp => by obtain ⟨w, w1, w2⟩ := h3 hp; exact ⟨w, sx_pre (List.prefix_append _ _) w1, w2⟩, fun hp ho => absurd (h4 hp) ho⟩
/-- locals and stack -/
def sx_Lc (b : Nat → Nat) (ad : List Nat) (rs : List Int32) (L : List Nat) (ls : Array Slot) : Prop := ls.size = L.length ∧ lv_wf ls ∧ ∀ (i v : Nat), L[i]? = some v → v ≠ 7 → ∃ x : Value, ls[i]? = some (Slot.val x) ∧ sx_V b ad rs v x
theorem sx_Lc.mono {b : Nat → Nat} {ad ad' : List Nat} {rs rs' : List Int32} {L : List Nat} {ls : Array Slot} (h : sx_Lc b ad rs L ls) (ha : ad <+: ad') (hr : rs <+: rs') : sx_Lc b ad' rs' L ls :=
  ⟨h.1, h.2.1, fun i v hi h7 => by obtain ⟨x, h1, h2⟩ := h.2.2 i v hi h7; exact ⟨x, h1, h2.mono ha hr⟩⟩
def sx_St (b : Nat → Nat) (ad : List Nat) (rs : List Int32) : List Nat → List Value → Prop
  | [], [] => True
  | v :: S, x :: st => sx_V b ad rs v x ∧ sx_St b ad rs S st
  | _, _ => False
theorem sx_St.mono {b : Nat → Nat} {ad ad' : List Nat} {rs rs' : List Int32} (ha : ad <+: ad') (hr : rs <+: rs') : ∀ {S : List Nat} {st : List Value}, sx_St b ad rs S st → sx_St b ad' rs' S st
  | [], [], h => h
  | v :: S, x :: st, h => ⟨h.1.mono ha hr, sx_St.mono ha hr h.2⟩
  | [], _ :: _, h => h
  | _ :: _, [], h => h
theorem sx_St.cons {b : Nat → Nat} {ad : List Nat} {rs : List Int32} {v : Nat} {S : List Nat} {st : List Value} (h : sx_St b ad rs (v :: S) st) : ∃ x st', st = x :: st' ∧ sx_V b ad rs v x ∧ sx_St b ad rs S st' := by
  cases st with
  | nil => exact h.elim
  | cons x t => exact ⟨x, t, rfl, h.1, h.2⟩
theorem sx_St.nil {b : Nat → Nat} {ad : List Nat} {rs : List Int32} {st : List Value} (h : sx_St b ad rs [] st) : st = [] := by
  cases st with
  | nil => rfl
  | cons x t => exact h.elim
theorem sx_St.sum {b : Nat → Nat} {ad : List Nat} {rs : List Int32} : ∀ {S : List Nat} {st : List Value}, sx_St b ad rs S st → (st.map fun v => v.category).sum ≤ 2 * S.length
  | [], [], _ => by simp
  | v :: S, x :: st, h => by
    have h1 := sx_St.sum h.2
    have h2 := h.1.c2
    simp only [List.map_cons, List.sum_cons, List.length_cons]
    omega
  | [], _ :: _, h => h.elim
  | _ :: _, [], h => h.elim
theorem sx_St.len {b : Nat → Nat} {ad : List Nat} {rs : List Int32} : ∀ {S : List Nat} {st : List Value}, sx_St b ad rs S st → st.length = S.length
  | [], [], _ => rfl
  | v :: S, x :: st, h => by simp [sx_St.len h.2]
  | [], _ :: _, h => h.elim
  | _ :: _, [], h => h.elim
end
section
/-! sx: numbers -/
theorem sx_b_int (z : Int32) : (sx_b z : Int) = z.toInt + 2147483648 := by
  have h1 := Int32.le_toInt z
  unfold sx_b
  rw [Int.toNat_of_nonneg (by omega)]
theorem sx_b_lt (z : Int32) : sx_b z < 4294967296 := by
  have h1 := sx_b_int z
  have h2 := Int32.toInt_lt z
  omega
theorem sx_b_inj {y z : Int32} (h : sx_b y = sx_b z) : y = z := by
  have h1 := sx_b_int y
  have h2 := sx_b_int z
  exact Int32.toInt_inj.mp (by omega)
theorem sx_b_eq {y z : Int32} : sx_b y = sx_b z ↔ y = z := ⟨sx_b_inj, fun h => by rw [h]⟩
theorem sx_b_ltI {y z : Int32} : sx_b y < sx_b z ↔ y < z := by
  have h1 := sx_b_int y
  have h2 := sx_b_int z
  rw [Int32.lt_iff_toInt_lt]
  omega
theorem sx_b_leI {y z : Int32} : sx_b y ≤ sx_b z ↔ y ≤ z := by
  have h1 := sx_b_int y
  have h2 := sx_b_int z
  rw [Int32.le_iff_toInt_le]
  omega
theorem sx_bs_eq (x : Nat) : sx_bs x = (x + 2147483648) % 4294967296 := rfl
theorem sx_b_ofNat (x : Nat) : sx_b (Int32.ofNat x) = sx_bs x := by
  have h1 := sx_b_int (Int32.ofNat x)
  rw [Int32.toInt_ofNat'] at h1
  rw [sx_bs_eq]
  simp only [Int.bmod_def, show ((Int32.size : Nat) : Int) = 4294967296 from rfl] at h1
  split at h1 <;> omega
theorem sx_b_back (z : Int32) : Int32.ofNat (sx_bs (sx_b z)) = z := by
  apply sx_b_inj
  rw [sx_b_ofNat, sx_bs_eq, sx_bs_eq]
  have := sx_b_lt z
  omega
theorem sx_app_ok {a b : sx_R} {outs : List sx_O} (h : sx_app a b = some outs) : ∃ x y, a = some x ∧ b = some y ∧ outs = x ++ y := by
  cases a with
  | none => cases h
  | some x =>
    cases b with
    | none => cases h
    | some y => exact ⟨x, y, rfl, rfl, (Option.some.inj h).symm⟩
theorem sx_if_ok {c : Bool} {a : sx_R} {outs : List sx_O} (h : sx_if c a none = some outs) : c = true ∧ a = some outs := by
  cases c with
  | true => exact ⟨rfl, h⟩
  | false => cases h
theorem sx_and_ok {a b : Bool} (h : sx_and a b = true) : a = true ∧ b = true := by
  cases a with
  | true => exact ⟨rfl, h⟩
  | false => cases h
theorem sx_opt_ok {α : Type} {o : Option α} {f : α → sx_R} {outs : List sx_O} (h : (Option.rec none f o : sx_R) = some outs) : ∃ x, o = some x ∧ f x = some outs := by
  cases o with
  | none => cases h
  | some x => exact ⟨x, rfl, h⟩
theorem sx_beq {a b : Nat} (h : Nat.beq a b = true) : a = b := Nat.eq_of_beq_eq_true h
theorem sx_ble {a b : Nat} (h : Nat.ble a b = true) : a ≤ b := Nat.le_of_ble_eq_true h
theorem sx_blt {a b : Nat} (h : Nat.blt a b = true) : a < b := Nat.le_of_ble_eq_true h
theorem sx_beq_f {a b : Nat} (h : Nat.beq a b = false) : a ≠ b := Nat.ne_of_beq_eq_false h
theorem sx_tg_eq (v : Nat) : sx_tg v = v % 8 := rfl
theorem sx_pl_eq (v : Nat) : sx_pl v = v / 8 := rfl
section SXNum
variable {b : Nat → Nat} {ad : List Nat} {rs : List Int32} {sy : sx_Y} {outs : List sx_O}
theorem sx_nm_ok {v : Nat} {x : Value} {K : Nat → sx_R} (h : sx_nm sy v K = some outs) (hy : sx_Yok rs sy) (hv : sx_V b ad rs v x) : ∃ v', K v' = some outs ∧ sx_V b ad rs v' x ∧ (v' = v ∨ v' % 8 = 0) := by
  unfold sx_nm at h
  cases hc : Nat.beq (sx_tg v) 1 with
  | false => rw [hc] at h; exact ⟨v, h, hv, Or.inl rfl⟩
  | true =>
    rw [hc] at h
    obtain ⟨e, he, h⟩ := sx_opt_ok (show _ = some outs from h)
    rw [sx_nth_eq] at he
    have ht : v % 8 = 1 := sx_beq hc
    obtain ⟨z, hz, rfl⟩ := hv.t1 ht
    cases hd : Nat.beq e.1 e.2.1 with
    | false => rw [hd] at h; exact ⟨v, h, hv, Or.inl rfl⟩
    | true =>
      rw [hd] at h
      rw [sx_if_t, sx_fo_eq] at h
      obtain ⟨q1, q2, -⟩ := hy.2 _ z e hz he
      have q3 := sx_beq hd
      have q4 : sx_b z = e.1 := by omega
      refine ⟨_, h, Or.inl ⟨Nat.mul_mod_right 8 _, ?_⟩, Or.inr (Nat.mul_mod_right 8 _)⟩
      rw [← q4]
      show Value.int z = .int (Int32.ofNat (8 * sx_bs (sx_b z) / 8))
      rw [Nat.mul_div_cancel_left _ (by decide), sx_b_back]
theorem sx_rf_ok {k lo hi : Nat} {z : Int32} {K : sx_Y → sx_R} (h : sx_rf sy k lo hi K = some outs) (hy : sx_Yok rs sy) (hk : rs[k]? = some z) (h1 : lo ≤ sx_b z) (h2 : sx_b z ≤ hi) : ∃ sy', K sy' = some outs ∧ sx_Yok rs sy' ∧ sy'.length = sy.length ∧ (∃ p o, sy'[k]? = some (lo, hi, p, o)) ∧ ∀ j, j ≠ k → sy'[j]? = sy[j]? := by
  unfold sx_rf at h
  have hc : Nat.ble lo hi = true := Nat.ble_eq_true_of_le (Nat.le_trans h1 h2)
  rw [hc] at h
  obtain ⟨e, he, h⟩ := sx_opt_ok (show _ = some outs from h)
  rw [sx_nth_eq] at he
  simp only [sx_fo_eq, sx_stK_eq] at h
  exact ⟨_, h, hy.rf hk he h1 h2, by rw [List.length_set], ⟨_, _, List.getElem?_set_self (List.getElem?_eq_some_iff.mp he).1⟩, fun j hj => List.getElem?_set_ne (Ne.symm hj)⟩
theorem sx_mn_eq (a b : Nat) : sx_mn a b = min a b := by
  unfold sx_mn
  cases h : Nat.ble a b with
  | true => have := sx_ble h; rw [sx_if_t]; omega
  | false => have : ¬ a ≤ b := fun q => by rw [Nat.ble_eq_true_of_le q] at h; cases h
             rw [sx_if_f]; omega
theorem sx_mx_eq (a b : Nat) : sx_mx a b = max a b := by
  unfold sx_mx
  cases h : Nat.ble a b with
  | true => have := sx_ble h; rw [sx_if_t]; omega
  | false => have : ¬ a ≤ b := fun q => by rw [Nat.ble_eq_true_of_le q] at h; cases h
             rw [sx_if_f]; omega
theorem sx_en_ok {k lo hi : Nat} {z : Int32} {K : sx_Y → sx_R} (h : sx_en sy k lo hi K = some outs) (hy : sx_Yok rs sy) (hk : rs[k]? = some z) (h1 : lo ≤ sx_b z) (h2 : sx_b z ≤ hi) : ∃ sy' outs', K sy' = some outs' ∧ (∀ o ∈ outs', o ∈ outs) ∧ sx_Yok rs sy' ∧ sy'.length = sy.length ∧ (∃ p o, sy'[k]? = some (sx_b z, sx_b z, p, o)) ∧ ∀ j, j ≠ k → sy'[j]? = sy[j]? := by
  unfold sx_en at h
  obtain ⟨-, h⟩ := sx_if_ok h
  have key : ∀ (n : Nat) (outs : List sx_O), (Nat.rec (some []) (fun i ih => sx_app ih (sx_fo (Nat.add lo i) (fun x => sx_rf sy k x x K))) n : sx_R) = some outs → sx_b z < lo + n → ∃ sy' outs', K sy' = some outs' ∧ (∀ o ∈ outs', o ∈ outs) ∧ sx_Yok rs sy' ∧ sy'.length = sy.length ∧ (∃ p o, sy'[k]? = some (sx_b z, sx_b z, p, o)) ∧ ∀ j, j ≠ k → sy'[j]? = sy[j]? := by
    intro n
    induction n with
    | zero => intro outs _ hn; omega
    | succ n ih =>
      intro outs h hn
      obtain ⟨x, y, hx, hy', rfl⟩ := sx_app_ok h
      by_cases hz : sx_b z < lo + n
      · obtain ⟨sy', o', a1, a2, a3⟩ := ih x hx hz
        exact ⟨sy', o', a1, fun o ho => List.mem_append_left _ (a2 o ho), a3⟩
      · have hzn : lo + n = sx_b z := by omega
        rw [sx_fo_eq] at hy'
        have hy'' : sx_rf sy k (lo + n) (lo + n) K = some y := hy'
        rw [hzn] at hy''
        obtain ⟨sy', a1, a2, a3, a4, a5⟩ := sx_rf_ok hy'' hy hk (Nat.le_refl _) (Nat.le_refl _)
        exact ⟨sy', y, a1, fun o ho => List.mem_append_right _ ho, a2, a3, a4, a5⟩
  exact key _ outs h (by show sx_b z < lo + (hi + 1 - lo); omega)
theorem sx_sub_app_l {x y outs : List sx_O} (h : outs = x ++ y) : ∀ o ∈ x, o ∈ outs := fun o ho => by rw [h]; exact List.mem_append_left _ ho
theorem sx_sub_app_r {x y outs : List sx_O} (h : outs = x ++ y) : ∀ o ∈ y, o ∈ outs := fun o ho => by rw [h]; exact List.mem_append_right _ ho
theorem sx_ble_f {a b : Nat} (h : Nat.ble a b = false) : b < a := by
  rcases Nat.lt_or_ge b a with q | q
  · exact q
  · rw [Nat.ble_eq_true_of_le q] at h; cases h
theorem sx_blt_t {a b : Nat} (h : a < b) : Nat.blt a b = true := Nat.ble_eq_true_of_le h
theorem sx_blt_e {a b : Nat} (h : ¬ a < b) : Nat.blt a b = false := by
  cases q : Nat.blt a b with
  | true => exact absurd (sx_blt q) h
  | false => rfl
theorem sx_ble_e {a b : Nat} (h : ¬ a ≤ b) : Nat.ble a b = false := by
  cases q : Nat.ble a b with
  | true => exact absurd (sx_ble q) h
  | false => rfl
theorem sx_beq_t {a b : Nat} (h : a = b) : Nat.beq a b = true := by rw [h]; exact Nat.beq_refl b
theorem sx_beq_e {a b : Nat} (h : ¬ a = b) : Nat.beq a b = false := by
  cases q : Nat.beq a b with
  | true => exact absurd (sx_beq q) h
  | false => rfl
theorem sx_cs_ok {c k lo hi d : Nat} {z : Int32} {K : Bool → sx_Y → sx_R} (hc5 : c ≤ 5) (h : sx_cs c sy k lo hi d K = some outs) (hy : sx_Yok rs sy) (hk : rs[k]? = some z) (h1 : lo ≤ sx_b z) (h2 : sx_b z ≤ hi) : ∃ sy' outs', K (sx_cb c (sx_b z) d) sy' = some outs' ∧ (∀ o ∈ outs', o ∈ outs) ∧ sx_Yok rs sy' ∧ sy'.length = sy.length := by
  have fin : ∀ {lo' hi' : Nat} {t : Bool} {x : List sx_O}, sx_rf sy k lo' hi' (K t) = some x → lo' ≤ sx_b z → sx_b z ≤ hi' → (∀ o ∈ x, o ∈ outs) → t = sx_cb c (sx_b z) d → ∃ sy' outs', K (sx_cb c (sx_b z) d) sy' = some outs' ∧ (∀ o ∈ outs', o ∈ outs) ∧ sx_Yok rs sy' ∧ sy'.length = sy.length := by
    intro lo' hi' t x hx q1 q2 q3 q4
    obtain ⟨sy', a1, a2, a3, -⟩ := sx_rf_ok hx hy hk q1 q2
    exact ⟨sy', x, by rw [← q4]; exact a1, q3, a2, a3⟩
  unfold sx_cs at h
  rcases (show c = 0 ∨ c = 1 ∨ c = 2 ∨ c = 3 ∨ c = 4 ∨ c = 5 by omega) with rfl | rfl | rfl | rfl | rfl | rfl
  all_goals simp only [sx_mn_eq, sx_mx_eq] at h
  · obtain ⟨x, y, hx, hy2, e1⟩ := sx_app_ok (show _ = some outs from h)
    obtain ⟨y1, y2, hy3, hy4, e2⟩ := sx_app_ok hy2
    rcases Nat.lt_trichotomy (sx_b z) d with q | q | q
    · rw [sx_beq_e (show ¬ d = 0 by omega)] at hy3
      exact fin hy3 h1 (by show sx_b z ≤ min hi (d - 1); omega) (fun o ho => sx_sub_app_r e1 o (sx_sub_app_l e2 o ho)) (by show false = Nat.beq (sx_b z) d; rw [sx_beq_e (by omega)])
    · exact fin hx (by show max lo d ≤ sx_b z; omega) (by show sx_b z ≤ min hi d; omega) (sx_sub_app_l e1) (by show true = Nat.beq (sx_b z) d; rw [sx_beq_t q])
    · exact fin hy4 (by show max lo (d + 1) ≤ sx_b z; omega) h2 (fun o ho => sx_sub_app_r e1 o (sx_sub_app_r e2 o ho)) (by show false = Nat.beq (sx_b z) d; rw [sx_beq_e (by omega)])
  · obtain ⟨x, y, hx, hy2, e1⟩ := sx_app_ok (show _ = some outs from h)
    obtain ⟨y1, y2, hy3, hy4, e2⟩ := sx_app_ok hy2
    rcases Nat.lt_trichotomy (sx_b z) d with q | q | q
    · rw [sx_beq_e (show ¬ d = 0 by omega)] at hy3
      exact fin hy3 h1 (by show sx_b z ≤ min hi (d - 1); omega) (fun o ho => sx_sub_app_r e1 o (sx_sub_app_l e2 o ho)) (by show true = !Nat.beq (sx_b z) d; rw [sx_beq_e (by omega)]; rfl)
    · exact fin hx (by show max lo d ≤ sx_b z; omega) (by show sx_b z ≤ min hi d; omega) (sx_sub_app_l e1) (by show false = !Nat.beq (sx_b z) d; rw [sx_beq_t q]; rfl)
    · exact fin hy4 (by show max lo (d + 1) ≤ sx_b z; omega) h2 (fun o ho => sx_sub_app_r e1 o (sx_sub_app_r e2 o ho)) (by show true = !Nat.beq (sx_b z) d; rw [sx_beq_e (by omega)]; rfl)
  · obtain ⟨x, y, hx, hy2, e1⟩ := sx_app_ok (show _ = some outs from h)
    rcases Nat.lt_or_ge (sx_b z) d with q | q
    · rw [sx_beq_e (show ¬ d = 0 by omega)] at hx
      exact fin hx h1 (by show sx_b z ≤ min hi (d - 1); omega) (sx_sub_app_l e1) (by show true = Nat.blt (sx_b z) d; rw [sx_blt_t q])
    · exact fin hy2 (by show max lo d ≤ sx_b z; omega) h2 (sx_sub_app_r e1) (by show false = Nat.blt (sx_b z) d; rw [sx_blt_e (by omega)])
  · obtain ⟨x, y, hx, hy2, e1⟩ := sx_app_ok (show _ = some outs from h)
    rcases Nat.lt_or_ge (sx_b z) d with q | q
    · rw [sx_beq_e (show ¬ d = 0 by omega)] at hx
      exact fin hx h1 (by show sx_b z ≤ min hi (d - 1); omega) (sx_sub_app_l e1) (by show false = Nat.ble d (sx_b z); rw [sx_ble_e (by omega)])
    · exact fin hy2 (by show max lo d ≤ sx_b z; omega) h2 (sx_sub_app_r e1) (by show true = Nat.ble d (sx_b z); rw [Nat.ble_eq_true_of_le q])
  · obtain ⟨x, y, hx, hy2, e1⟩ := sx_app_ok (show _ = some outs from h)
    rcases Nat.lt_or_ge d (sx_b z) with q | q
    · exact fin hy2 (by show max lo (d + 1) ≤ sx_b z; omega) h2 (sx_sub_app_r e1) (by show true = Nat.blt d (sx_b z); rw [sx_blt_t q])
    · exact fin hx h1 (by show sx_b z ≤ min hi d; omega) (sx_sub_app_l e1) (by show false = Nat.blt d (sx_b z); rw [sx_blt_e (by omega)])
  · obtain ⟨x, y, hx, hy2, e1⟩ := sx_app_ok (show _ = some outs from h)
    rcases Nat.lt_or_ge d (sx_b z) with q | q
    · exact fin hy2 (by show max lo (d + 1) ≤ sx_b z; omega) h2 (sx_sub_app_r e1) (by show false = Nat.ble (sx_b z) d; rw [sx_ble_e (by omega)])
    · exact fin hx h1 (by show sx_b z ≤ min hi d; omega) (sx_sub_app_l e1) (by show true = Nat.ble (sx_b z) d; rw [Nat.ble_eq_true_of_le q])
end SXNum
end
section
/-! sx: comparisons and sums of symbols -/
section SXArith
variable {b : Nat → Nat} {ad : List Nat} {rs : List Int32} {sy : sx_Y} {outs : List sx_O}
theorem sx_cy_ok {t f : Bool} {i li hi j lj hj : Nat} {x y : Int32} {K : Bool → sx_Y → sx_R} (h : sx_cy t f sy i li hi j lj hj K = some outs) (hy : sx_Yok rs sy) (hi' : rs[i]? = some x) (hj' : rs[j]? = some y) (h1 : li ≤ sx_b x) (h2 : sx_b x ≤ hi) (h3 : lj ≤ sx_b y) (h4 : sx_b y ≤ hj) :
    ∃ sy' outs', K (if sx_b x < sx_b y then t else f) sy' = some outs' ∧ (∀ o ∈ outs', o ∈ outs) ∧ sx_Yok rs sy' ∧ sy'.length = sy.length := by
  unfold sx_cy at h
  simp only [sx_mn_eq, sx_mx_eq] at h
  obtain ⟨u, w, hu, hw, e1⟩ := sx_app_ok (show _ = some outs from h)
  by_cases hlt : sx_b x < sx_b y
  · rw [if_pos hlt]
    rw [sx_beq_e (show ¬ hj = 0 by omega)] at hu
    obtain ⟨s1, a1, a2, a3, -⟩ := sx_rf_ok (show sx_rf sy i li (min hi (hj - 1)) _ = some u from hu) hy hi' h1 (by omega)
    obtain ⟨s2, b1, b2, b3, -⟩ := sx_rf_ok (show sx_rf s1 j (max lj (li + 1)) hj _ = some u from a1) a2 hj' (by omega) h4
    exact ⟨s2, u, b1, sx_sub_app_l e1, b2, b3.trans a3⟩
  · rw [if_neg hlt]
    obtain ⟨s1, a1, a2, a3, -⟩ := sx_rf_ok hw hy hi' (by omega) h2
    obtain ⟨s2, b1, b2, b3, -⟩ := sx_rf_ok a1 a2 hj' h3 (by omega)
    exact ⟨s2, w, b1, sx_sub_app_r e1, b2, b3.trans a3⟩
theorem sx_cw_ok {c : Nat} (h : c ≤ 5) : sx_cw c ≤ 5 := by
  rcases (show c = 0 ∨ c = 1 ∨ c = 2 ∨ c = 3 ∨ c = 4 ∨ c = 5 by omega) with rfl | rfl | rfl | rfl | rfl | rfl <;> decide
theorem sx_beq_comm (a d : Nat) : Nat.beq a d = Nat.beq d a := by
  by_cases h : a = d
  · rw [h]
  · rw [sx_beq_e h, sx_beq_e (fun q => h q.symm)]
theorem sx_cb_cw {c : Nat} (h : c ≤ 5) (a d : Nat) : sx_cb (sx_cw c) d a = sx_cb c a d := by
  rcases (show c = 0 ∨ c = 1 ∨ c = 2 ∨ c = 3 ∨ c = 4 ∨ c = 5 by omega) with rfl | rfl | rfl | rfl | rfl | rfl
  · exact sx_beq_comm d a
  · show (!Nat.beq d a) = !Nat.beq a d; rw [sx_beq_comm]
  · rfl
  · rfl
  · rfl
  · rfl
theorem sx_cb_sy (c : Nat) (h : c = 2 ∨ c = 3) (a d : Nat) : (if a < d then Nat.beq c 2 else Nat.beq c 3) = sx_cb c a d := by
  rcases h with rfl | rfl
  · show (if a < d then true else false) = Nat.blt a d
    by_cases q : a < d
    · rw [if_pos q, sx_blt_t q]
    · rw [if_neg q, sx_blt_e q]
  · show (if a < d then false else true) = Nat.ble d a
    by_cases q : a < d
    · rw [if_pos q, sx_ble_e (by omega)]
    · rw [if_neg q, Nat.ble_eq_true_of_le (by omega)]
theorem sx_cb_sz (c : Nat) (h : c = 4 ∨ c = 5) (a d : Nat) : (if d < a then Nat.beq c 4 else Nat.beq c 5) = sx_cb c a d := by
  rcases h with rfl | rfl
  · show (if d < a then true else false) = Nat.blt d a
    by_cases q : d < a
    · rw [if_pos q, sx_blt_t q]
    · rw [if_neg q, sx_blt_e q]
  · show (if d < a then false else true) = Nat.ble a d
    by_cases q : d < a
    · rw [if_pos q, sx_ble_e (by omega)]
    · rw [if_neg q, Nat.ble_eq_true_of_le (by omega)]
theorem sx_cmp_ok {c x y : Nat} {p q : Int32} {K : Bool → sx_Y → sx_R} (hc : c ≤ 5) (h : sx_cmp c x y sy K = some outs) (hy : sx_Yok rs sy) (hx : sx_V b ad rs x (.int p)) (hq : sx_V b ad rs y (.int q)) :
    ∃ sy' outs', K (sx_cb c (sx_b p) (sx_b q)) sy' = some outs' ∧ (∀ o ∈ outs', o ∈ outs) ∧ sx_Yok rs sy' ∧ sy'.length = sy.length := by
  unfold sx_cmp at h
  obtain ⟨x', h, hx', -⟩ := sx_nm_ok h hy hx
  obtain ⟨y', h, hy', -⟩ := sx_nm_ok h hy hq
  cases h0 : Nat.beq (sx_tg x') 0 with
  | true =>
    rw [h0, sx_if_t] at h
    have e0 := hx'.t0 (sx_beq h0)
    cases e0
    cases g0 : Nat.beq (sx_tg y') 0 with
    | true =>
      rw [g0, sx_if_t] at h
      have f0 := hy'.t0 (sx_beq g0)
      cases f0
      refine ⟨sy, outs, ?_, fun _ h => h, hy, rfl⟩
      rw [sx_b_ofNat, sx_b_ofNat]
      exact h
    | false =>
      rw [g0, sx_if_f] at h
      obtain ⟨g1, h⟩ := sx_if_ok h
      obtain ⟨e, he, h⟩ := sx_opt_ok (show _ = some outs from h)
      rw [sx_nth_eq] at he
      rw [sx_fo_eq] at h
      obtain ⟨z, hz, hzq⟩ := hy'.t1 (sx_beq g1)
      cases hzq
      obtain ⟨r1, r2, -⟩ := hy.2 _ q e hz he
      obtain ⟨s1, o1, a1, a2, a3, a4⟩ := sx_cs_ok (sx_cw_ok hc) h hy hz r1 r2
      refine ⟨s1, o1, ?_, a2, a3, a4⟩
      rw [sx_cb_cw hc] at a1
      rw [sx_b_ofNat]
      exact a1
  | false =>
    rw [h0, sx_if_f] at h
    obtain ⟨h1, h⟩ := sx_if_ok h
    obtain ⟨e, he, h⟩ := sx_opt_ok (show _ = some outs from h)
    rw [sx_nth_eq] at he
    obtain ⟨z, hz, hzp⟩ := hx'.t1 (sx_beq h1)
    cases hzp
    obtain ⟨r1, r2, -⟩ := hy.2 _ p e hz he
    cases g0 : Nat.beq (sx_tg y') 0 with
    | true =>
      rw [g0, sx_if_t, sx_fo_eq] at h
      have f0 := hy'.t0 (sx_beq g0)
      cases f0
      obtain ⟨s1, o1, a1, a2, a3, a4⟩ := sx_cs_ok hc h hy hz r1 r2
      refine ⟨s1, o1, ?_, a2, a3, a4⟩
      rw [sx_b_ofNat]
      exact a1
    | false =>
      rw [g0, sx_if_f] at h
      obtain ⟨g1, h⟩ := sx_if_ok h
      obtain ⟨e2, he2, h⟩ := sx_opt_ok (show _ = some outs from h)
      rw [sx_nth_eq] at he2
      obtain ⟨z2, hz2, hzq⟩ := hy'.t1 (sx_beq g1)
      cases hzq
      obtain ⟨r3, r4, -⟩ := hy.2 _ q e2 hz2 he2
      cases c1 : Nat.ble c 1 with
      | true =>
        rw [c1, sx_if_t] at h
        obtain ⟨s1, o1, a1, a2, a3, a4, ⟨u, v, a5⟩, a6⟩ := sx_en_ok h hy hz r1 r2
        obtain ⟨e3, he3, a1⟩ := sx_opt_ok (show _ = some o1 from a1)
        rw [sx_nth_eq] at he3
        cases he3.symm.trans a5
        obtain ⟨e4, he4, a1⟩ := sx_opt_ok (show _ = some o1 from a1)
        rw [sx_nth_eq] at he4
        obtain ⟨r5, r6, -⟩ := a3.2 _ q e4 hz2 he4
        obtain ⟨s2, o2, b1, b2, b3, b4⟩ := sx_cs_ok (sx_cw_ok hc) a1 a3 hz2 r5 r6
        rw [sx_cb_cw hc] at b1
        exact ⟨s2, o2, b1, fun o ho => a2 o (b2 o ho), b3, b4.trans a4⟩
      | false =>
        rw [c1, sx_if_f] at h
        have hc1 := sx_ble_f c1
        cases c3 : Nat.ble c 3 with
        | true =>
          rw [c3, sx_if_t] at h
          have hc3 := sx_ble c3
          obtain ⟨s1, o1, a1, a2, a3, a4⟩ := sx_cy_ok h hy hz hz2 r1 r2 r3 r4
          rw [sx_cb_sy c (by omega)] at a1
          exact ⟨s1, o1, a1, a2, a3, a4⟩
        | false =>
          rw [c3, sx_if_f] at h
          have hc3 := sx_ble_f c3
          obtain ⟨s1, o1, a1, a2, a3, a4⟩ := sx_cy_ok h hy hz2 hz r3 r4 r1 r2
          rw [sx_cb_sz c (by omega)] at a1
          exact ⟨s1, o1, a1, a2, a3, a4⟩
/-! sums -/
theorem sx_tn_back (z : Int32) : Int32.ofNat z.toBitVec.toNat = z := by
  apply Int32.toBitVec_inj.mp
  simp [Int32.ofNat]
theorem sx_i_ok (z : Int32) : sx_i z % 8 = 0 ∧ Int32.ofNat (sx_i z / 8) = z := by
  unfold sx_i
  refine ⟨Nat.mul_mod_right 8 _, ?_⟩
  rw [show Nat.mul 8 z.toBitVec.toNat / 8 = z.toBitVec.toNat from Nat.mul_div_cancel_left _ (by decide)]
  apply Int32.toBitVec_inj.mp
  simp [Int32.ofNat]
theorem sx_j_ok (z : Int64) : sx_j z % 8 = 4 ∧ Int64.ofNat (sx_j z / 8) = z := by
  unfold sx_j
  have h : Nat.add (Nat.mul 8 z.toBitVec.toNat) 4 = 8 * z.toBitVec.toNat + 4 := rfl
  rw [h]
  refine ⟨by omega, ?_⟩
  rw [show (8 * z.toBitVec.toNat + 4) / 8 = z.toBitVec.toNat by omega]
  apply Int64.toBitVec_inj.mp
  simp [Int64.ofNat]
theorem sx_V_i (z : Int32) : sx_V b ad rs (sx_i z) (.int z) := Or.inl ⟨(sx_i_ok z).1, by rw [(sx_i_ok z).2]⟩
theorem sx_bk_ok {o x y : Nat} {K : Nat → sx_R} (h : sx_bk o x y K = some outs) : ∃ v, K v = some outs ∧ v % 8 = 0 ∧ Int32.ofNat (v / 8) = sx_bf o (Int32.ofNat x) (Int32.ofNat y) ∧ (9 ≤ o → ¬ Int32.ofNat y = 0) := by
  unfold sx_bk at h
  cases h0 : Nat.beq o 0 with
  | true =>
    rw [h0, sx_if_t, sx_fo_eq] at h
    have := sx_beq h0
    subst this
    refine ⟨_, h, Nat.mul_mod_right 8 _, ?_, fun q => by omega⟩
    rw [show Nat.mul 8 (Nat.mod (Nat.add x y) 4294967296) / 8 = (x + y) % 4294967296 from Nat.mul_div_cancel_left _ (by decide)]
    show _ = Int32.ofNat x + Int32.ofNat y
    rw [← Int32.ofNat_add]
    apply sx_b_inj
    rw [sx_b_ofNat, sx_b_ofNat, sx_bs_eq, sx_bs_eq]
    omega
  | false =>
    rw [h0, sx_if_f] at h
    cases h9 : Nat.ble 9 o with
    | true =>
      rw [h9, sx_if_t] at h
      cases hz : Nat.beq (Nat.mod y 4294967296) 0 with
      | true => rw [hz, sx_if_t] at h; cases h
      | false =>
        rw [hz, sx_if_f, sx_fo_eq] at h
        refine ⟨_, h, (sx_i_ok _).1, (sx_i_ok _).2, fun _ q => ?_⟩
        have h2 : sx_b (Int32.ofNat y) = sx_b 0 := by rw [q]
        rw [sx_b_ofNat, sx_bs_eq, show sx_b 0 = 2147483648 from rfl] at h2
        have h3 : ¬ y % 4294967296 = 0 := sx_beq_f hz
        omega
    | false =>
      rw [h9, sx_if_f, sx_fo_eq] at h
      exact ⟨_, h, (sx_i_ok _).1, (sx_i_ok _).2, fun q => absurd (sx_ble_f h9) (by omega)⟩
theorem sx_fr_ok {lo hi pr off : Nat} {K : Nat → sx_Y → sx_R} {z : Int32} (h : sx_fr sy lo hi pr off K = some outs) (hy : sx_Yok rs sy) (h1 : lo ≤ sx_b z) (h2 : sx_b z ≤ hi) (h3 : pr ≠ 0 → ∃ y, rs[pr - 1]? = some y ∧ sx_b z = sx_b y + off) (h4 : pr = 0 → off = 0 := by first | exact fun _ => rfl | (intro h; cases h)) :
    ∃ v sy' rs', K v sy' = some outs ∧ rs <+: rs' ∧ sx_Yok rs' sy' ∧ sx_V b ad rs' v (.int z) := by
  unfold sx_fr at h
  simp only [sx_fo_eq] at h
  refine ⟨_, _, rs ++ [z], h, List.prefix_append _ _, hy.fr h1 h2 h3 h4, Or.inr (Or.inl ?_)⟩
  have e : Nat.add (Nat.mul 8 (List.length sy)) 1 = 8 * sy.length + 1 := rfl
  rw [e]
  refine ⟨by omega, z, ?_, rfl⟩
  rw [show (8 * sy.length + 1) / 8 = rs.length by rw [hy.1]; omega, List.getElem?_append_right (Nat.le_refl _), Nat.sub_self]
  rfl
/-- any int -/
theorem sx_any (z : Int32) : 0 ≤ sx_b z ∧ sx_b z ≤ 4294967295 := ⟨Nat.zero_le _, by have := sx_b_lt z; omega⟩
def sx_Bn (b : Nat → Nat) (ad : List Nat) (rs : List Int32) (outs : List sx_O) (K : Nat → sx_Y → sx_R) (o : Nat) (p q : Int32) : Prop :=
  ∃ v sy' rs' outs', K v sy' = some outs' ∧ (∀ o ∈ outs', o ∈ outs) ∧ rs <+: rs' ∧ sx_Yok rs' sy' ∧ sx_V b ad rs' v (.int (sx_bf o p q)) ∧ (9 ≤ o → ¬ q = 0)
theorem sx_Bn.fresh {o : Nat} {p q : Int32} {K : Nat → sx_Y → sx_R} {o1 : List sx_O} (h : sx_if (Nat.ble 9 o) none (sx_fr sy 0 4294967295 0 0 K) = some o1) (hy : sx_Yok rs sy) (hs : ∀ o ∈ o1, o ∈ outs) : sx_Bn b ad rs outs K o p q := by
  cases h9 : Nat.ble 9 o with
  | true => rw [h9, sx_if_t] at h; cases h
  | false =>
    rw [h9, sx_if_f] at h
    obtain ⟨v, s1, r1, a1, a2, a3, a4⟩ := sx_fr_ok (z := sx_bf o p q) h hy (sx_any _).1 (sx_any _).2 (fun h => absurd rfl h)
    exact ⟨v, s1, r1, o1, a1, hs, a2, a3, a4, fun q => absurd (sx_ble_f h9) (by omega)⟩
theorem sx_Bn.known {o x y : Nat} {p q : Int32} {K : Nat → sx_Y → sx_R} {o1 : List sx_O} (h : sx_bk o (sx_pl x) (sx_pl y) (fun v => K v sy) = some o1) (hy : sx_Yok rs sy) (hx : x % 8 = 0) (hy0 : y % 8 = 0) (hvx : sx_V b ad rs x (.int p)) (hvy : sx_V b ad rs y (.int q)) (hs : ∀ o ∈ o1, o ∈ outs) : sx_Bn b ad rs outs K o p q := by
  cases hvx.t0 hx
  cases hvy.t0 hy0
  obtain ⟨v, a1, a2, a3, a4⟩ := sx_bk_ok h
  exact ⟨v, sy, rs, o1, a1, hs, List.prefix_rfl, hy, Or.inl ⟨a2, by rw [a3]; rfl⟩, a4⟩
theorem sx_bm_ok {o x y : Nat} {p q : Int32} {K : Nat → sx_Y → sx_R} (h : sx_bm o x y sy K = some outs) (hy : sx_Yok rs sy) (hvx : sx_V b ad rs x (.int p)) (hvy : sx_V b ad rs y (.int q)) : sx_Bn b ad rs outs K o p q := by
  unfold sx_bm at h
  cases h1 : Nat.beq (sx_tg x) 1 with
  | true =>
    rw [h1, sx_if_t] at h
    obtain ⟨e, he, h⟩ := sx_opt_ok (show _ = some outs from h)
    rw [sx_nth_eq] at he
    obtain ⟨z, hz, hzp⟩ := hvx.t1 (sx_beq h1)
    cases hzp
    obtain ⟨r1, r2, -⟩ := hy.2 _ p e hz he
    cases h2 : Nat.ble e.2.1 (Nat.add e.1 64) with
    | true =>
      rw [h2, sx_if_t] at h
      obtain ⟨s1, o1, a1, a2, a3, a4, a5⟩ := sx_en_ok h hy hz r1 r2
      obtain ⟨x', a1, hx', -⟩ := sx_nm_ok a1 a3 hvx
      obtain ⟨y', a1, hy', -⟩ := sx_nm_ok a1 a3 hvy
      obtain ⟨c1, a1⟩ := sx_if_ok a1
      cases c2 : Nat.beq (sx_tg y') 0 with
      | true =>
        rw [c2, sx_if_t] at a1
        exact sx_Bn.known a1 a3 (sx_beq c1) (sx_beq c2) hx' hy' a2
      | false =>
        rw [c2, sx_if_f] at a1
        obtain ⟨-, a1⟩ := sx_if_ok a1
        exact sx_Bn.fresh a1 a3 a2
    | false =>
      rw [h2, sx_if_f] at h
      obtain ⟨-, h⟩ := sx_if_ok h
      exact sx_Bn.fresh h hy (fun _ h => h)
  | false =>
    rw [h1, sx_if_f] at h
    obtain ⟨c0, h⟩ := sx_if_ok h
    obtain ⟨c1, h⟩ := sx_if_ok h
    obtain ⟨e, he, h⟩ := sx_opt_ok (show _ = some outs from h)
    rw [sx_nth_eq] at he
    obtain ⟨z, hz, hzp⟩ := hvy.t1 (sx_beq c1)
    cases hzp
    obtain ⟨r1, r2, -⟩ := hy.2 _ q e hz he
    cases h2 : Nat.ble e.2.1 (Nat.add e.1 64) with
    | true =>
      rw [h2, sx_if_t] at h
      obtain ⟨s1, o1, a1, a2, a3, a4, a5⟩ := sx_en_ok h hy hz r1 r2
      obtain ⟨y', a1, hy', -⟩ := sx_nm_ok a1 a3 hvy
      obtain ⟨c2, a1⟩ := sx_if_ok a1
      exact sx_Bn.known a1 a3 (sx_beq c0) (sx_beq c2) hvx hy' a2
    | false =>
      rw [h2, sx_if_f] at h
      exact sx_Bn.fresh h hy (fun _ h => h)
/-- a mask that isn't negative -/
theorem sx_mask (p q : Int32) (x : Nat) (hx : x < 2147483648) (hq : q = Int32.ofNat x) : 2147483648 ≤ sx_b (p &&& q) ∧ sx_b (p &&& q) ≤ 2147483648 + x := by
  have h1 : (p &&& q).toBitVec.toNat = p.toBitVec.toNat &&& x := by
    rw [hq, Int32.toBitVec_and, BitVec.toNat_and]
    congr 1
    exact pk_tn (n := x) (by omega)
  have h2 : (p &&& q).toBitVec.toNat ≤ x := by rw [h1]; exact Nat.and_le_right
  have h3 : p &&& q = Int32.ofNat (p &&& q).toBitVec.toNat := (sx_tn_back _).symm
  rw [h3, sx_b_ofNat, sx_bs_eq]
  omega
theorem sx_and_comm (p q : Int32) : p &&& q = q &&& p := by
  apply Int32.toBitVec_inj.mp
  simp only [Int32.toBitVec_and]
  exact BitVec.and_comm _ _
theorem sx_bin_ok {o x y : Nat} {p q : Int32} {K : Nat → sx_Y → sx_R} (h : sx_bin o x y sy K = some outs) (hy : sx_Yok rs sy) (hvx : sx_V b ad rs x (.int p)) (hvy : sx_V b ad rs y (.int q)) : sx_Bn b ad rs outs K o p q := by
  unfold sx_bin at h
  obtain ⟨x', h, hx', -⟩ := sx_nm_ok h hy hvx
  obtain ⟨y', h, hy', -⟩ := sx_nm_ok h hy hvy
  cases h0 : Nat.beq (sx_tg x') 0 with
  | true =>
    rw [h0, sx_if_t] at h
    cases g0 : Nat.beq (sx_tg y') 0 with
    | true =>
      rw [g0, sx_if_t] at h
      exact sx_Bn.known h hy (sx_beq h0) (sx_beq g0) hx' hy' (fun _ h => h)
    | false =>
      rw [g0, sx_if_f] at h
      cases c3 : Nat.beq o 3 with
      | false => rw [c3, sx_if_f] at h; exact sx_bm_ok h hy hx' hy'
      | true =>
        rw [c3, sx_if_t] at h
        have ho := sx_beq c3
        cases c4 : Nat.blt (sx_pl x') 2147483648 with
        | false => rw [c4, sx_if_f] at h; exact sx_bm_ok h hy hx' hy'
        | true =>
          rw [c4, sx_if_t] at h
          obtain ⟨-, h⟩ := sx_if_ok h
          have e0 : p = Int32.ofNat (x' / 8) := by have := hx'.t0 (sx_beq h0); cases this; rfl
          obtain ⟨r1, r2⟩ := sx_mask q p (x' / 8) (sx_blt c4) e0
          rw [ho]
          obtain ⟨v, s1, rs1, a1, a2, a3, a4⟩ := sx_fr_ok (z := q &&& p) h hy r1 r2 (fun h => absurd rfl h)
          exact ⟨v, s1, rs1, outs, a1, fun _ h => h, a2, a3, by rw [sx_and_comm q p] at a4; exact a4, fun q => by omega⟩
  | false =>
    rw [h0, sx_if_f] at h
    cases g0 : Nat.beq (sx_tg y') 0 with
    | false => rw [g0, sx_if_f] at h; exact sx_bm_ok h hy hx' hy'
    | true =>
      rw [g0, sx_if_t] at h
      obtain ⟨t1, h⟩ := sx_if_ok h
      have e0 : q = Int32.ofNat (y' / 8) := by have := hy'.t0 (sx_beq g0); cases this; rfl
      cases c3 : Nat.beq o 3 with
      | true =>
        rw [c3, sx_if_t] at h
        have ho := sx_beq c3
        cases c4 : Nat.blt (sx_pl y') 2147483648 with
        | false => rw [c4, sx_if_f] at h; exact sx_bm_ok h hy hx' hy'
        | true =>
          rw [c4, sx_if_t] at h
          obtain ⟨r1, r2⟩ := sx_mask p q (y' / 8) (sx_blt c4) e0
          rw [ho]
          obtain ⟨v, s1, rs1, a1, a2, a3, a4⟩ := sx_fr_ok (z := p &&& q) h hy r1 r2 (fun h => absurd rfl h)
          exact ⟨v, s1, rs1, outs, a1, fun _ h => h, a2, a3, a4, fun q => by omega⟩
      | false =>
        rw [c3, sx_if_f] at h
        cases c5 : Nat.beq o 0 with
        | false => rw [c5, sx_if_f] at h; exact sx_bm_ok h hy hx' hy'
        | true =>
          rw [c5, sx_if_t] at h
          have ho := sx_beq c5
          obtain ⟨e, he, h⟩ := sx_opt_ok (show _ = some outs from h)
          rw [sx_nth_eq] at he
          obtain ⟨z, hz, hzp⟩ := hx'.t1 (sx_beq t1)
          cases hzp
          obtain ⟨r1, r2, -⟩ := hy.2 _ p e hz he
          cases c6 : Nat.blt (Nat.add e.2.1 (sx_pl y')) 4294967296 with
          | false => rw [c6, sx_if_f] at h; exact sx_bm_ok h hy hx' hy'
          | true =>
            rw [c6, sx_if_t] at h
            have hlt : e.2.1 + y' / 8 < 4294967296 := sx_blt c6
            have hs : sx_b (p + q) = sx_b p + y' / 8 := by
              have h1 := sx_b_back p
              rw [e0]
              conv => lhs; rw [← h1]
              rw [← Int32.ofNat_add, sx_b_ofNat, sx_bs_eq, sx_bs_eq]
              have := sx_b_lt p
              omega
            rw [ho]
            obtain ⟨v, s1, rs1, a1, a2, a3, a4⟩ := sx_fr_ok (z := p + q) h hy (by rw [hs]; exact Nat.add_le_add_right r1 _) (by rw [hs]; exact Nat.add_le_add_right r2 _) (fun _ => ⟨p, hz, hs⟩)
            exact ⟨v, s1, rs1, outs, a1, fun _ h => h, a2, a3, a4, fun q => by omega⟩
theorem sx_bin2_ok {o x y : Nat} {p q : Int32} {K : Nat → sx_Y → sx_R} (h : sx_bin2 o x y sy K = some outs) (hy : sx_Yok rs sy) (hvx : sx_V b ad rs x (.int p)) (hvy : sx_V b ad rs y (.int q)) : sx_Bn b ad rs outs K o p q := by
  unfold sx_bin2 at h
  cases hc : sx_and (Nat.beq o 3) (sx_and (Nat.beq y 504) (Nat.beq x 1)) with
  | false => rw [hc, sx_if_f] at h; exact sx_bin_ok h hy hvx hvy
  | true =>
    rw [hc, sx_if_t, sx_nth_eq] at h
    obtain ⟨en, hen, h'⟩ := sx_opt_ok h
    clear h
    have h := h'
    clear h'
    cases hd : sx_and (Nat.beq en.2.2.1 0) (Nat.blt 0 en.2.2.2) with
    | false => rw [hd, sx_if_f] at h; exact sx_bin_ok h hy hvx hvy
    | true =>
      rw [hd, sx_if_t, sx_fo_eq] at h
      have hK := h
      clear h
      obtain ⟨c1, c2⟩ := sx_and_ok hc
      obtain ⟨c2, c3⟩ := sx_and_ok c2
      have c1 := sx_beq c1
      have c2 := sx_beq c2
      have c3 := sx_beq c3
      subst c1 c2 c3
      obtain ⟨d1, d2⟩ := sx_and_ok hd
      have d1 := sx_beq d1
      have d2 : 0 < en.2.2.2 := sx_blt d2
      obtain ⟨z, hz, e1⟩ := hvx.t1 (by decide)
      cases e1
      have e2 := hvy.t0 (by decide)
      cases e2
      have hm := (hy.2 0 p en hz hen).2.2.2 d1 (by omega)
      refine ⟨_, _, rs, outs, hK, fun _ h => h, List.prefix_rfl, hy, Or.inl ⟨?_, ?_⟩, fun h => by omega⟩
      · show 8 * (en.2.2.2 - 1) % 8 = 0
        omega
      · show Value.int (sx_bf 3 p (Int32.ofNat 63)) = Value.int (Int32.ofNat (8 * (en.2.2.2 - 1) / 8))
        rw [show 8 * (en.2.2.2 - 1) / 8 = en.2.2.2 - 1 by omega, ← hm]
        rfl
end SXArith
end
section
/-! sx: where a run stands -/
def sx_wl : List Cond := lw_tbl.filter goodWord
theorem sx_wl_in {w : Cond} (h : w ∈ sx_wl) : w ∈ lw_tbl ∧ goodWord w = true := List.mem_filter.mp h
def sx_Tb (D : va_G) (K : ClassId → FieldType → Prop) (s : State) : Prop :=
  (∀ a : Array Value, ∀ w ∈ sx_wl, w.before a s = true) ∧
  (∀ q ∈ sx_nl, va_Nw (.methodLinkNest q.1 q.2.1 q.2.2.1 q.2.2.2) s) ∧
  ((∀ q ∈ sx_sr, ∃ a, vk_R q.1 q.2.1 q.2.2 a s) ∧ (∀ x ∈ sx_exc, va_Nw (.castable x x) s) ∧ va_Nw (.declares (Bundle.initS "java/lang/RuntimeException")) s ∧ va_Nw (.declares (Bundle.initS "java/lang/Exception")) s ∧ va_Nw (.declares (Bundle.initS Bundle.tN)) s) ∧
  (∀ x ∈ sx_exc, ∀ y ∈ sx_exc, ∃ cx cy, s.vm.findClass x = some cx ∧ s.vm.findClass y = some cy ∧ (s.vm.assignable cx cy = true ↔ x = y)) ∧
  va_AO "AbsentRings$Table" s ∧ va_K D sx_classes [] s ∧ ∀ cA ty, K cA ty ↔ (ArrOfT s cA ty ∧ va_RA s cA ty)
theorem sx_Tb.warm {D : va_G} {K : ClassId → FieldType → Prop} {s U : State} (hW : s.WarmedH U.vm) (h : sx_Tb D K s) : sx_Tb D K U := by
  obtain ⟨h1, h2, h3, h4, h5, h6, h7⟩ := h
  refine ⟨fun a w hw => word_at (args := #[]) hW (good_of_word (sx_wl_in hw).2) (h1 _ w hw), fun q hq => va_Nw.warmM hW (h2 q hq), ⟨fun q hq => by obtain ⟨a, ha⟩ := h3.1 q hq; exact ⟨a, ha.warm hW⟩, fun x hx => va_Nw.warmC hW (h3.2.1 x hx), va_Nw.warmD hW h3.2.2.1, va_Nw.warmD hW h3.2.2.2.1, va_Nw.warmD hW h3.2.2.2.2⟩, fun x hx y hy => ?_, va_AO.moved hW.alike h5, va_K.moved hW.alike h6, fun cA ty => ?_⟩
  · obtain ⟨cx, cy, q1, q2, q3⟩ := h4 x hx y hy
    exact ⟨cx, cy, by rw [hW.alike.findClass]; exact q1, by rw [hW.alike.findClass]; exact q2, by rw [hW.alike.assignable]; exact q3⟩
  · rw [h7]
    exact ⟨fun q => ⟨arrOfT_moved hW.alike q.1, q.2.moved hW.alike⟩, fun q => ⟨arrOfT_moved hW.alike.symm q.1, q.2.moved hW.alike.symm⟩⟩
/-- what Throwable's constructor reads of statics -/
def sx_Z1 (n d : String) (A : Nat → Prop) (s : State) (H : Heap) : Prop := ∃ (c : ClassId) (k : Class) (i : Nat) (f : Field) (a : Nat) (cell : Cell) (u : RefV), s.vm.findClass Bundle.tN = some c ∧ s.fieldFound? Bundle.tN n d = some (c, k, i, f) ∧ f.isStatic = true ∧ k.statics = some a ∧ H[a]? = some cell ∧ cell.vm.isStatics = true ∧ cell.cls = c ∧ f.slot < cell.slots.size ∧ k.staticTypes[f.slot]? = some f.type ∧ cell.slots[f.slot]? = some u.v ∧ ¬ A a
theorem sx_Z1.moved {n d : String} {A : Nat → Prop} {s U : State} {H : Heap} (hvm : s.vm.Alike U.vm) (h : sx_Z1 n d A s H) : sx_Z1 n d A U H := by
  obtain ⟨c, k, i, f, a, cell, u, h1, h2, h3, h4, h5, h6, h7, h8, h9, h10, h11⟩ := h
  obtain ⟨k', hi', he⟩ := State.fieldFound?_setVm hvm h2
  exact ⟨c, k', i, f, a, cell, u, by rw [hvm.findClass]; exact h1, hi', h3, by rw [he]; exact h4, h5, h6, h7, h8, by rw [he]; exact h9, h10, h11⟩
theorem sx_Z1.kept {n d : String} {A : Nat → Prop} {s : State} {H H1 : Heap} (h : sx_Z1 n d A s H) (hq : ∀ a : Nat, a < H.size → ¬ A a → H1[a]? = H[a]?) : sx_Z1 n d A s H1 := by
  obtain ⟨c, k, i, f, a, cell, u, h1, h2, h3, h4, h5, h6, h7, h8, h9, h10, h11⟩ := h
  exact ⟨c, k, i, f, a, cell, u, h1, h2, h3, h4, by rw [hq a (Array.getElem?_eq_some_iff.mp h5).1 h11]; exact h5, h6, h7, h8, h9, h10, h11⟩
theorem sx_Z1.narrow {n d : String} {A B : Nat → Prop} {s : State} {H : Heap} (h : sx_Z1 n d A s H) (hAB : ∀ q, q < H.size → B q → A q) : sx_Z1 n d B s H := by
  obtain ⟨c, k, i, f, a, cell, u, h1, h2, h3, h4, h5, h6, h7, h8, h9, h10, h11⟩ := h
  exact ⟨c, k, i, f, a, cell, u, h1, h2, h3, h4, h5, h6, h7, h8, h9, h10, fun q => h11 (hAB a (Array.getElem?_eq_some_iff.mp h5).1 q)⟩
theorem sx_Z1.lays {n d : String} {A : Nat → Prop} {s : State} {args : Array Value} (h : sx_Z1 n d A s s.heap) : (Cond.laysStatic Bundle.tN n d).before args s = true := by
  obtain ⟨c, k, i, f, a, cell, u, h1, h2, h3, h4, h5, h6, h7, h8, h9, h10, h11⟩ := h
  exact Cond.laysStatic_of h1 h2 h3 h4 h5 h6 h7 h8 h9
theorem sx_Z1.isRef {n d : String} {A : Nat → Prop} {s : State} {args : Array Value} (h : sx_Z1 n d A s s.heap) : (Cond.isRef (.static Bundle.tN n d)).before args s = true := by
  obtain ⟨c, k, i, f, a, cell, ⟨v, hv⟩, h1, h2, h3, h4, h5, h6, h7, h8, h9, h10, h11⟩ := h
  have e : (Term.static Bundle.tN n d).eval args s none [] s = some v := Term.static_eval h2 h3 h4 h5 h6 h10
  cases v <;> simp [Value.isRef] at hv <;> simp [Cond.before, Cond.holds, Cond.value, e]
/-- known things beside the script: the Strings, their bytes, two statics, what SIOOBE_FORMATTER holds, and that readLine is declared -/
def sx_rl : MethodName := ⟨"AbsentRings$Text", "readLine", "()Z"⟩
def sx_Kx (b : Nat → Nat) (A : Nat → Prop) (s : State) (H : Heap) : Prop :=
  (∀ (k : Nat) (q : String × Nat × String), sx_sr[k]? = some q → vk_R q.1 q.2.1 q.2.2 (b (2 + k)) s ∧ va_O "java/lang/String" (b (2 + k)) A s H ∧ va_OF "java/lang/String" "coder" "B" (.int 0) (b (2 + k)) A s H ∧ va_OF "java/lang/String" "value" "[B" (.ref (b (2 + k + sx_ns))) (b (2 + k)) A s H) ∧
  (∀ (k : Nat) (t : List Nat), sx_sb[k]? = some t → va_T .byte (b (2 + sx_ns + k)) t.length (fun j => .int (Int32.ofNat (t.getD j 0))) A s H) ∧
  (va_Z "java/lang/String" "COMPACT_STRINGS" "Z" (.int 1) A s H ∧ va_Z "AbsentRings$Sides" "ORDERS" "[I" (.ref (b 1)) A s H ∧ va_T .int (b 1) 9 (fun j => .int (Int32.ofNat (sx_ordv.getD j 0))) A s H) ∧
  (∃ u : Value, u.category = 1 ∧ va_Z "jdk/internal/util/Preconditions" "SIOOBE_FORMATTER" "Ljava/util/function/BiFunction;" u A s H) ∧ va_Nw (.declares sx_rl) s
theorem sx_Kx.warm {b : Nat → Nat} {A : Nat → Prop} {s U : State} {H : Heap} (hW : s.WarmedH U.vm) (h : sx_Kx b A s H) : sx_Kx b A U H := by
  obtain ⟨h1, h2, ⟨h3, h4, h5⟩, ⟨u, hu, h6⟩, h7⟩ := h
  exact ⟨fun k q hq => ⟨(h1 k q hq).1.warm hW, va_O.moved hW.alike (h1 k q hq).2.1, va_OF.moved hW.alike (h1 k q hq).2.2.1, va_OF.moved hW.alike (h1 k q hq).2.2.2⟩, fun k t ht => va_T.moved hW.alike (h2 k t ht), ⟨va_Z.moved hW.alike h3, va_Z.moved hW.alike h4, va_T.moved hW.alike h5⟩, ⟨u, hu, va_Z.moved hW.alike h6⟩, va_Nw.warmD hW h7⟩
theorem sx_Kx.kept {b : Nat → Nat} {A : Nat → Prop} {s : State} {H H1 : Heap} (h : sx_Kx b A s H) (hq : ∀ a : Nat, a < H.size → ¬ A a → H1[a]? = H[a]?) : sx_Kx b A s H1 := by
  obtain ⟨h1, h2, ⟨h3, h4, h5⟩, ⟨u, hu, h6⟩, h7⟩ := h
  exact ⟨fun k q hk => ⟨(h1 k q hk).1, (h1 k q hk).2.1.kept hq, (h1 k q hk).2.2.1.kept hq, (h1 k q hk).2.2.2.kept hq⟩, fun k t ht => (h2 k t ht).kept hq, ⟨h3.kept hq, h4.kept hq, h5.kept hq⟩, ⟨u, hu, h6.kept hq⟩, h7⟩
theorem sx_Kx.narrow {b : Nat → Nat} {A B : Nat → Prop} {s : State} {H : Heap} (h : sx_Kx b A s H) (hAB : ∀ q, B q → A q) : sx_Kx b B s H := by
  obtain ⟨h1, h2, ⟨h3, h4, h5⟩, ⟨u, hu, h6⟩, h7⟩ := h
  exact ⟨fun k q hk => ⟨(h1 k q hk).1, (h1 k q hk).2.1.narrow hAB, (h1 k q hk).2.2.1.narrow hAB, (h1 k q hk).2.2.2.narrow hAB⟩, fun k t ht => (h2 k t ht).narrow hAB, ⟨h3.narrow hAB, h4.narrow hAB, h5.narrow hAB⟩, ⟨u, hu, h6.narrow hAB⟩, h7⟩
def sx_Sx (b : Nat → Nat) (A : Nat → Prop) (s : State) (H : Heap) : Prop := sx_Z1 "UNASSIGNED_STACK" Bundle.steD A s H ∧ sx_Z1 "SUPPRESSED_SENTINEL" Bundle.listD A s H ∧ sx_Kx b A s H
section SXCtx
variable (p : Program) (l : Launch) (e : Env) (R : Room) (s : State) (m : MethodId) (args : Array Value) (below : List Frame) (meth : Method) (c : Code)
variable (D : va_G) (K : ClassId → FieldType → Prop) (b : Nat → Nat) (N : Nat) (xs : Nat → Int32) (A : Nat → Prop)
def sx_Cx (mi d : Nat) (q : sx_M) : Prop :=
  sx_ms[mi]? = some q ∧ p.tables.exec = Jvm.exec ∧ e.platform.stackTraces = false ∧ c.code = q.2.1 ∧ c.maxLocals = q.2.2.1 ∧ meth.sig.returnType = q.2.2.2.1 ∧ meth.name = q.1.name ∧
  c.exceptionTable.toList.map (fun h => (h.startPc, h.endPc, h.handlerPc, h.catchType)) = q.2.2.2.2 ∧ s.vm.findClass q.1.cls = some m.cls ∧ meth.locks = false ∧
  sx_Tb D K s ∧ sx_Sx b A s s.heap ∧ va_X (b 0) N xs s s.heap ∧ b 0 < s.heap.size ∧ ¬ A (b 0) ∧ (∀ q, s.heap.size ≤ q → A q) ∧ (∀ (q : Nat) (cell : Cell), A q → s.heap[q]? = some cell → cell.vm.isStatics = false) ∧ d + 8 ≤ R.frames ∧ 100 * (d + 2) ≤ R.locals
def sx_At (ad : List Nat) (rs : List Int32) (cells slots : Nat) (locs : List Loc) (L S : List Nat) (h : sx_H) (n : Nat) (sy : sx_Y) (cs ss : Nat) (ls : Array Slot) (st : List Value) (H : Heap) : Prop :=
  sx_Lc b ad rs L ls ∧ sx_St b ad rs S st ∧ sx_Yok rs sy ∧ sx_G D K b A ad rs h n H ∧ va_S A s.heap H locs ∧ (∀ k, k < N → rs[k]? = some (xs k)) ∧ 600002 + cells ≤ R.cells + cs ∧ 7302232 + slots ≤ R.slots + ss ∧ L.length = c.maxLocals
def sx_Oc (ad : List Nat) (rs : List Int32) (kd v : Nat) (oc : Outcome) (t : State) : Prop :=
  (kd = 0 ∧ oc = .returned none) ∨ (kd = 1 ∧ ∃ x, oc = .returned (some x) ∧ sx_V b ad rs v x) ∨
  (∃ E nm, kd = E + 2 ∧ sx_exc[E]? = some nm ∧ ∃ (a : Addr) (cell : Cell), oc = .threw a ∧ t.heap[a]? = some cell ∧ s.vm.findClass nm = some cell.cls ∧ cell.vm = .none)
def sx_En (ad0 : List Nat) (rs0 : List Int32) (o : sx_O) (t : State) : Prop :=
  ∃ (oc : Outcome) (ad : List Nat) (rs : List Int32) (locs : List Loc) (cells slots : Nat), t.status = .running ∧ Ended t below oc ∧ s.WarmedH t.vm ∧ s.sameButNew ({ t with vm := s.vm } : State) locs cells slots ∧
    ad0 <+: ad ∧ rs0 <+: rs ∧ sx_Yok rs o.2.2.2.2.1 ∧ sx_G D K b A ad rs o.2.2.1 o.2.2.2.1 t.heap ∧ va_S A s.heap t.heap locs ∧ 600002 + cells ≤ R.cells + o.2.2.2.2.2.1 ∧ 7302232 + slots ≤ R.slots + o.2.2.2.2.2.2 ∧ sx_Oc s b ad rs o.1 o.2.1 oc t
/-- a loop's head: what its state has of symbols, and that the machine goes on from each of its states of less rank -/
def sx_Lx (Q : State → Prop) (ad : List Nat) (rs : List Int32) (pc0 : Nat) (L0 : List Nat) (h0 : sx_H) (n0 : Nat) (sy0 : sx_Y) (k0 r : Nat) (pl : List (Nat × Nat × Nat)) (cs0 ss0 : Nat) : Prop :=
  ∃ (rp : List Int32) (z1 z2 : Int32) (yp : sx_Y) (c0 j0 l1 u1 l2 u2 : Nat), pl = [(c0, j0, 0)] ∧ rp.length = k0 ∧ rp ++ [z1, z2] <+: rs ∧ sx_Yok rp yp ∧ sy0 = yp ++ [(l1, u1, 0, 0), (l2, u2, 0, 0)] ∧ (∀ k, k < N → rp[k]? = some (xs k)) ∧
    L0[r]? = some (8 * k0 + 1) ∧ (∀ i v, L0[i]? = some v → i ≠ r → v % 8 = 1 → v / 8 < k0) ∧ (∀ k j, k < n0 → j < (sx_rd h0 k).1 / 256 → ¬ (k = c0 ∧ j = j0) → sx_get (sx_rd h0 k).2 j % 8 = 1 → sx_get (sx_rd h0 k).2 j / 8 < k0) ∧
    ∀ (ad' : List Nat) (y1 y2 : Int32) (ls' : Array Slot) (st' : List Value) (H' : Heap) (locs' : List Loc) (cells' slots' : Nat), ad <+: ad' → sx_At R s c D K b N xs A ad' (rp ++ [y1, y2]) cells' slots' locs' L0 [] h0 n0 sy0 cs0 ss0 ls' st' H' → sx_b z1 < sx_b y1 →
      W p l e R s m args below meth c H' locs' cells' slots' Q (F0 m pc0 ls' st')
def sx_Ls (Q : State → Prop) (ad : List Nat) (rs : List Int32) (lst : List sx_I) : Prop :=
  ∀ (pc0 : Nat) (L0 S0 : List Nat) (h0 : sx_H) (n0 : Nat) (sy0 : sx_Y) (k0 r : Nat) (pl : List (Nat × Nat × Nat)) (cs0 ss0 : Nat), (pc0, L0, S0, h0, n0, sy0, k0, r, pl, cs0, ss0) ∈ lst → sx_Lx p l e R s m args below meth c D K b N xs A Q ad rs pc0 L0 h0 n0 sy0 k0 r pl cs0 ss0
end SXCtx
section SXCtx2
variable {p : Program} {l : Launch} {e : Env} {R : Room} {s : State} {m : MethodId} {args : Array Value} {below : List Frame} {meth : Method} {c : Code}
variable {D : va_G} {K : ClassId → FieldType → Prop} {b : Nat → Nat} {N : Nat} {xs : Nat → Int32} {A : Nat → Prop}
theorem sx_Ls.mono {Q : State → Prop} {ad ad' : List Nat} {rs rs' : List Int32} {lst : List sx_I} (h : sx_Ls p l e R s m args below meth c D K b N xs A Q ad rs lst) (ha : ad <+: ad') (hr : rs <+: rs') : sx_Ls p l e R s m args below meth c D K b N xs A Q ad' rs' lst := by
  intro pc0 L0 S0 h0 n0 sy0 k0 r pl cs0 ss0 hi
  obtain ⟨rp, z1, z2, yp, c0, j0, l1, u1, l2, u2, q1, q2, q3, q4, q5, q6, q7, q8, q9, q10⟩ := h pc0 L0 S0 h0 n0 sy0 k0 r pl cs0 ss0 hi
  exact ⟨rp, z1, z2, yp, c0, j0, l1, u1, l2, u2, q1, q2, q3.trans hr, q4, q5, q6, q7, q8, q9, fun ad2 y1 y2 ls2 st2 H2 locs2 cells2 slots2 a1 => q10 ad2 y1 y2 ls2 st2 H2 locs2 cells2 slots2 (ha.trans a1)⟩
theorem sx_En.mono {ad ad' : List Nat} {rs rs' : List Int32} {o : sx_O} {t : State} (h : sx_En R s below D K b A ad' rs' o t) (ha : ad <+: ad') (hr : rs <+: rs') : sx_En R s below D K b A ad rs o t := by
  obtain ⟨oc, ad2, rs2, locs, cells, slots, h1, h2, h3, h4, h5, h6, h7⟩ := h
  exact ⟨oc, ad2, rs2, locs, cells, slots, h1, h2, h3, h4, ha.trans h5, hr.trans h6, h7⟩
end SXCtx2
/-- the executor is right where it ends -/
def sx_mt (mi : Nat) : sx_C := if mi < 256 then sx_rd sx_prog mi else sx_rd sx_qrog (mi - 256)
theorem sx_mtK_eq (mi : Nat) (k : Nat → Nat → sx_R) : sx_mtK mi k = k (sx_mt mi).1 (sx_mt mi).2 := by
  unfold sx_mtK sx_mt
  simp only [sx_rdK_eq]
  by_cases h : mi < 256
  · rw [sx_blt_t h, sx_if_t, if_pos h]
  · rw [sx_blt_e h, sx_if_f, if_neg h]
    rfl
def sx_Ok (N : Nat) (ih : sx_ih) : Prop := ∀ (d mi : Nat) (lst : List sx_I) (fl : Bool) (pc : Nat) (L S : List Nat) (h : sx_H) (n : Nat) (sy : sx_Y) (cs ss : Nat) (outs : List sx_O), ih d mi (sx_mt mi).1 lst fl pc L S h n sy cs ss = some outs →
  ∀ (p : Program) (l : Launch) (e : Env) (R : Room) (s : State) (m : MethodId) (args : Array Value) (below : List Frame) (meth : Method) (c : Code) (D : va_G) (K : ClassId → FieldType → Prop) (b : Nat → Nat) (xs : Nat → Int32) (A : Nat → Prop) (q : sx_M)
    (ad : List Nat) (rs : List Int32) (ls : Array Slot) (st : List Value) (H : Heap) (locs : List Loc) (cells slots : Nat) (Q : State → Prop),
    sx_Cx p e R s m meth c D K b N xs A mi d q → sx_At R s c D K b N xs A ad rs cells slots locs L S h n sy cs ss ls st H → sx_Ls p l e R s m args below meth c D K b N xs A Q ad rs lst →
    (∀ o ∈ outs, ∀ t, sx_En R s below D K b A ad rs o t → Q t) → W p l e R s m args below meth c H locs cells slots Q (F0 m pc ls st)
end
section
/-! sx: a word of the executor's against the method's own code -/
def sx_oa {α : Type} (o : Option α) (f : α → Bool) : Bool := match o with
  | some t => f t
  | none => false
theorem sx_oa_ok {α : Type} {o : Option α} {f : α → Bool} (h : sx_oa o f = true) : ∃ t, o = some t ∧ f t = true := by
  cases o with
  | none => cases h
  | some t => exact ⟨t, rfl, h⟩
def sx_dc (q : sx_M) (pc : Nat) (i : Instr) (n : Nat) : Bool := decide (decode q.2.1 pc = .ok (i, n))
theorem sx_dc_ok {q : sx_M} {pc n : Nat} {i : Instr} (h : sx_dc q pc i n = true) : decode q.2.1 pc = .ok (i, n) := of_decide_eq_true h
def sx_cnd (a : Nat) : ClassFile.Cond := if a = 0 then .eq else if a = 1 then .ne else if a = 2 then .lt else if a = 3 then .ge else if a = 4 then .gt else .le
def sx_of (pc t : Nat) : Int := (t : Int) - (pc : Int)
def sx_f4 (a : Nat) : Fin 4 := ⟨a % 4, Nat.mod_lt _ (by decide)⟩
section SXWd
variable (q : sx_M) (pc w : Nat)
def sx_k1 : Bool :=
  let z := Int32.ofNat (sx_wc w / 8)
  if sx_wb w = 0 then decide (sx_wa w = 1) && (decide (sx_wc w % 8 = 0) && sx_dc q pc (.iconst z.toInt) 1)
  else if sx_wb w = 1 then decide (sx_wa w = 2) && (decide (sx_wc w % 8 = 0) && (decide ((Int8.ofInt z.toInt).toInt32 = z) && sx_dc q pc (.bipush z.toInt) 2))
  else if sx_wb w = 2 then decide (sx_wa w = 3) && (decide (sx_wc w % 8 = 0) && (decide ((Int16.ofInt z.toInt).toInt32 = z) && sx_dc q pc (.sipush z.toInt) 3))
  else if sx_wb w = 3 then decide (sx_wa w = 1) && ((decide (sx_wc w = 4) && sx_dc q pc (.lconst 0) 1) || (decide (sx_wc w = 12) && sx_dc q pc (.lconst 1) 1))
  else if (sx_wb w - 4) % 3 = 0 then decide (sx_wa w = 2) && (decide (sx_wc w % 8 = 0) && sx_oa (sx_cn[(sx_wb w - 4) / 3]?) (fun t => decide (t.1 = q.1.cls) && (decide (t.2.2 = z) && sx_dc q pc (.ldc t.2.1) 2)))
  else if (sx_wb w - 4) % 3 = 1 then decide (sx_wa w = 3) && (decide (sx_wc w % 8 = 0) && sx_oa (sx_cn[(sx_wb w - 4) / 3]?) (fun t => decide (t.1 = q.1.cls) && (decide (t.2.2 = z) && sx_dc q pc (.ldc_w t.2.1) 3)))
  else decide (sx_wa w = 3) && (decide (sx_wc w % 8 = 4) && sx_oa (sx_cg[(sx_wb w - 4) / 3]?) (fun t => decide (t.1 = q.1.cls) && (decide (t.2.2 = Int64.ofNat (sx_wc w / 8)) && sx_dc q pc (.ldc2_w t.2.1) 3)))
def sx_k2 : Bool :=
  if sx_wb w = 1 then decide (sx_wa w < 4) && sx_dc q pc (.iload_n (sx_f4 (sx_wa w))) 1
  else if sx_wb w = 2 then sx_dc q pc (.iload (sx_wa w)) 2
  else if sx_wb w = 17 then decide (sx_wa w < 4) && sx_dc q pc (.aload_n (sx_f4 (sx_wa w))) 1
  else if sx_wb w = 18 then sx_dc q pc (.aload (sx_wa w)) 2
  else if sx_wb w = 33 then decide (sx_wa w < 4) && sx_dc q pc (.lload_n (sx_f4 (sx_wa w))) 1
  else decide (sx_wb w = 34) && sx_dc q pc (.lload (sx_wa w)) 2
def sx_k3 : Bool :=
  if sx_wb w = 1 then decide (sx_wa w < 4) && sx_dc q pc (.istore_n (sx_f4 (sx_wa w))) 1
  else if sx_wb w = 2 then sx_dc q pc (.istore (sx_wa w)) 2
  else if sx_wb w = 17 then decide (sx_wa w < 4) && sx_dc q pc (.astore_n (sx_f4 (sx_wa w))) 1
  else if sx_wb w = 18 then sx_dc q pc (.astore (sx_wa w)) 2
  else if sx_wb w = 33 then decide (sx_wa w < 4) && sx_dc q pc (.lstore_n (sx_f4 (sx_wa w))) 1
  else decide (sx_wb w = 34) && sx_dc q pc (.lstore (sx_wa w)) 2
def sx_bi (o : Nat) : Instr := if o = 0 then .iadd else if o = 1 then .isub else if o = 2 then .imul else if o = 3 then .iand else if o = 4 then .ior else if o = 5 then .ixor else if o = 6 then .ishl else if o = 7 then .ishr else if o = 8 then .iushr else if o = 9 then .idiv else .irem
def sx_k4 : Bool := decide (sx_wa w ≤ 10) && sx_dc q pc (sx_bi (sx_wa w)) 1
def sx_k5 : Bool := sx_dc q pc (.iinc (sx_wa w) (Int32.ofNat (sx_wc w)).toInt) 3
def sx_k6 : Bool := decide (sx_wa w ≤ 5) && sx_dc q pc (.ifCond (sx_cnd (sx_wa w)) (sx_of pc (sx_wb w))) 3
def sx_k7 : Bool := decide (sx_wa w ≤ 5) && sx_dc q pc (.if_icmp (sx_cnd (sx_wa w)) (sx_of pc (sx_wb w))) 3
def sx_k8 : Bool := sx_dc q pc (.goto (sx_of pc (sx_wb w))) 3
def sx_k9 : Bool := sx_oa (sx_fl[sx_wa w]?) (fun t => decide (t.1 = q.1.cls) && sx_dc q pc (.getfield t.2.1) 3)
/-- a final field is written where it may be -/
def sx_pf (k : Nat) : Bool := (List.range 12).all (fun ci => let j := sx_slot ci k; if j = 0 then true else sx_oa (sx_classes[ci]?) (fun C => if (C.2.1 (j % 32 - 1)).2.2.2 = true then decide (q.1.name = "<init>") && decide ((C.2.1 (j % 32 - 1)).1 = q.1.cls) else true))
def sx_k10 : Bool := sx_oa (sx_fl[sx_wa w]?) (fun t => decide (t.1 = q.1.cls) && (sx_dc q pc (.putfield t.2.1) 3 && sx_pf q (sx_wa w)))
def sx_k18 : Bool := sx_oa (sx_cl[sx_wa w]?) (fun t => decide (t.1 = q.1.cls) && (sx_dc q pc (.new t.2.1) 3 && (sx_oa (sx_classes[sx_wb w]?) (fun C => decide (C.1 = t.2.2)) && decide (sx_wb w < 12))))
def sx_k19 : Bool := if sx_wa w = 0 then sx_dc q pc (.newarray .int) 2 else decide (sx_wa w = 1) && sx_dc q pc (.newarray .long) 2
def sx_k20 : Bool := sx_oa (sx_cl[sx_wa w]?) (fun t => decide (t.1 = q.1.cls) && (sx_dc q pc (.anewarray t.2.1) 3 && decide (t.2.2 = "AbsentRings$Table")))
/-- a call by the receiver's class: which classes, in the table of such calls -/
def sx_k21 : Bool := sx_oa (sx_ml[sx_wa w]?) (fun t => decide (t.1 = q.1.cls) && (sx_dc q pc (.invokevirtual t.2.1) 3 && (decide (sx_wb w < 4096) && (List.range 12).all (fun ci => if (sx_wb w >>> ci) % 2 = 1 then sx_oa (sx_vt[sx_wa w]?) (fun u => u.any (fun v => decide (v.1 = ci) && decide (v.2.1 = sx_wc w))) else true))))
def sx_k22 : Bool := sx_stat.any (fun v => decide (v.1 = sx_wc w)) && sx_oa (sx_ms[sx_wc w]?) (fun r =>
  if sx_wb w = 0 then sx_oa (sx_ml[sx_wa w]?) (fun t => decide (t.1 = q.1.cls) && (sx_dc q pc (.invokestatic t.2.1) 3 && decide (t.2.2 = r.1)))
  else sx_oa (sx_nl[sx_wa w]?) (fun t => decide (t.1 = q.1.cls) && (sx_dc q pc (.invokestatic t.2.1) 3 && decide (t.2.2.1 = r.1))))
def sx_k23 : Bool := sx_init.any (fun v => decide (v.1 = sx_wc w)) && sx_oa (sx_ms[sx_wc w]?) (fun r =>
  if sx_wb w = 0 then sx_oa (sx_ml[sx_wa w]?) (fun t => decide (t.1 = q.1.cls) && (sx_dc q pc (.invokespecial t.2.1) 3 && decide (t.2.2 = r.1)))
  else sx_oa (sx_nl[sx_wa w]?) (fun t => decide (t.1 = q.1.cls) && (sx_dc q pc (.invokespecial t.2.1) 3 && decide (t.2.2.1 = r.1))))
def sx_k24 : Bool := sx_oa (sx_ml[sx_wa w]?) (fun t => decide (t.1 = q.1.cls) && (sx_dc q pc (.invokespecial t.2.1) 3 && decide (t.2.2 = Lib.objectInit)))
def sx_k25 : Bool := sx_oa (sx_ml[sx_wa w]?) (fun t => decide (t.1 = q.1.cls) && (sx_dc q pc (.invokestatic t.2.1) 3 && decide (t.2.2 = arraycopyName)))
def sx_k26 : Bool := if sx_wa w = 0 then decide (q.2.2.2.1 = some .int) && sx_dc q pc .ireturn 1 else if sx_wa w = 1 then decide (q.2.2.2.1 = some .boolean) && sx_dc q pc .ireturn 1 else decide (q.2.2.2.1 = some .long) && sx_dc q pc .lreturn 1
def sx_k27 : Bool := decide (q.2.2.2.1 = none) && sx_dc q pc .return_ 1
def sx_k28 : Bool := sx_oa (sx_cl[sx_wa w]?) (fun t => decide (t.1 = q.1.cls) && (sx_dc q pc (.new t.2.1) 3 && (sx_dc q (pc + 3) .dup 1 && (sx_oa (sx_exc[sx_wb w % 16]?) (fun E => decide (t.2.2 = E)) &&
  sx_oa (sx_sr[sx_wc w % 65536]?) (fun u => decide (u.1 = q.1.cls) && sx_oa (sx_ml[sx_wc w / 65536]?) (fun v => decide (v.1 = q.1.cls) && (decide (v.2.2 = Bundle.initS t.2.2) &&
    (if sx_wb w / 16 = 0 then sx_dc q (pc + 4) (.ldc u.2.1) 2 && (sx_dc q (pc + 6) (.invokespecial v.2.1) 3 && sx_dc q (pc + 9) .athrow 1)
     else sx_dc q (pc + 4) (.ldc_w u.2.1) 3 && (sx_dc q (pc + 7) (.invokespecial v.2.1) 3 && sx_dc q (pc + 10) .athrow 1)))))))))
def sx_k32 : Bool := if sx_wa w = 0 then sx_dc q pc .ineg 1 else if sx_wa w = 1 then sx_dc q pc .i2l 1 else decide (sx_wa w = 2) && sx_dc q pc .l2i 1
def sx_k35 : Bool := if sx_wa w = 0 then sx_dc q pc .ladd 1 else if sx_wa w = 1 then sx_dc q pc .lsub 1 else if sx_wa w = 2 then sx_dc q pc .lmul 1 else if sx_wa w = 3 then sx_dc q pc .ldiv 1 else sx_dc q pc .lcmp 1
def sx_k37 : Bool := sx_oa (sx_tsw[sx_wa w]?) (fun t => decide (2147483648 ≤ t.2.1) && (decide (t.2.1 < 4294967296) && (decide (0 < t.2.2.1.length) && (decide (t.2.1 + t.2.2.1.length ≤ 4294967296) && sx_dc q pc (.tableswitch (sx_of pc t.1) ((t.2.1 : Int) - 2147483648) ((t.2.1 : Int) + t.2.2.1.length - 2147483649) (t.2.2.1.map (sx_of pc)).toArray) t.2.2.2))))
def sx_k33 : Bool := decide (sx_wa w < sx_ns) && sx_oa (sx_sr[sx_wa w]?) (fun u => decide (u.1 = q.1.cls) && (if sx_wb w = 2 then sx_dc q pc (.ldc u.2.1) 2 else decide (sx_wb w = 3) && sx_dc q pc (.ldc_w u.2.1) 3))
def sx_k34 : Bool := sx_oa (sx_fx[sx_wa w]?) (fun t => decide (t.1 = q.1.cls) && (sx_dc q pc (.getstatic t.2.1) 3 && (if sx_wb w = 0 then decide (t.2.2 = ("AbsentRings$Sides", "ORDERS", "[I")) && decide (sx_wc w = 13) else if sx_wb w = 1 then decide (t.2.2 = ("java/lang/String", "COMPACT_STRINGS", "Z")) && decide (sx_wc w = 8)
  else decide (t.2.2 = ("jdk/internal/util/Preconditions", "SIOOBE_FORMATTER", "Ljava/util/function/BiFunction;")) && decide (sx_wc w = 15))))
def sx_k38 : Bool := sx_oa (sx_fx[sx_wa w]?) (fun t => decide (t.1 = q.1.cls) && (sx_dc q pc (.getfield t.2.1) 3 && (if sx_wb w = 0 then decide (t.2.2 = ("java/lang/String", "coder", "B")) else decide (t.2.2 = ("java/lang/String", "value", "[B")))))
def sx_k39 : Bool := sx_oa (sx_ml[sx_wa w]?) (fun t => decide (t.1 = q.1.cls) && (sx_dc q pc (.invokevirtual t.2.1) 3 && sx_xt.any (fun v => decide (v.1 = sx_wa w) && decide (v.2.1 = sx_wc w))))
def sx_k40 : Bool := sx_k21 q pc (sx_w1 w) && sx_k21 q pc (sx_w2 w)
def sx_k41 : Bool := sx_oa (sx_cg[sx_wa w]?) (fun t => decide (t.1 = q.1.cls) && sx_dc q pc (.ldc2_w t.2.1) 3)
def sx_k43 : Bool := if sx_wa w = 0 then decide (q.2.2.2.1 = some .byte) && sx_dc q pc .ireturn 1 else decide (q.2.2.2.1 = some .char) && sx_dc q pc .ireturn 1
def sx_wd : Bool := let o := sx_op w
  if o = 1 then sx_k1 q pc w else if o = 2 then sx_k2 q pc w else if o = 3 then sx_k3 q pc w else if o = 4 then sx_k4 q pc w else if o = 5 then sx_k5 q pc w else if o = 6 then sx_k6 q pc w else if o = 7 then sx_k7 q pc w else if o = 8 then sx_k8 q pc w
  else if o = 9 then sx_k9 q pc w else if o = 10 then sx_k10 q pc w else if o = 11 then sx_dc q pc .iaload 1 else if o = 12 then sx_dc q pc .iastore 1 else if o = 13 then sx_dc q pc .laload 1 else if o = 14 then sx_dc q pc .lastore 1 else if o = 15 then sx_dc q pc .aaload 1 else if o = 16 then sx_dc q pc .aastore 1
  else if o = 17 then sx_dc q pc .arraylength 1 else if o = 18 then sx_k18 q pc w else if o = 19 then sx_k19 q pc w else if o = 20 then sx_k20 q pc w else if o = 21 then sx_k21 q pc w else if o = 22 then sx_k22 q pc w else if o = 23 then sx_k23 q pc w else if o = 24 then sx_k24 q pc w
  else if o = 25 then sx_k25 q pc w else if o = 26 then sx_k26 q pc w else if o = 27 then sx_k27 q pc else if o = 28 then sx_k28 q pc w else if o = 29 then sx_dc q pc .dup 1 else if o = 30 then sx_dc q pc .dup2 1 else if o = 31 then sx_dc q pc .pop 1 else if o = 32 then sx_k32 q pc w
  else if o = 35 then sx_k35 q pc w else if o = 37 then sx_k37 q pc w else if o = 33 then sx_k33 q pc w else if o = 34 then sx_k34 q pc w else if o = 36 then sx_dc q pc .baload 1 else if o = 38 then sx_k38 q pc w else if o = 39 then sx_k39 q pc w else if o = 40 then sx_k40 q pc w else if o = 41 then sx_k41 q pc w else if o = 42 then sx_dc q pc .i2c 1 else if o = 43 then sx_k43 q pc w else true
end SXWd
/-- all words of a method -/
def sx_mw (q : sx_M) (cd len : Nat) : Bool := decide (cd < 2 ^ (80 * len)) && (List.range len).all (fun pc => if sx_ft cd pc = 0 then true else sx_wd q pc (sx_ft cd pc))
theorem sx_mw_ok {q : sx_M} {cd len : Nat} (h : sx_mw q cd len = true) (pc : Nat) (h0 : sx_op (sx_ft cd pc) ≠ 0) : sx_wd q pc (sx_ft cd pc) = true := by
  unfold sx_mw at h
  rw [Bool.and_eq_true, decide_eq_true_eq] at h
  have hne : ¬ sx_ft cd pc = 0 := fun q => h0 (by rw [q]; rfl)
  by_cases hl : pc < len
  · have h1 := List.all_eq_true.mp h.2 pc (List.mem_range.mpr hl)
    rw [if_neg hne] at h1
    exact h1
  · exfalso
    apply hne
    show (cd >>> (80 * pc)) % 1208925819614629174706176 = 0
    have h2 : cd < 2 ^ (80 * pc) := Nat.lt_of_lt_of_le h.1 (Nat.pow_le_pow_right (by decide) (by omega))
    rw [Nat.shiftRight_eq_div_pow, Nat.div_eq_of_lt h2]
end
