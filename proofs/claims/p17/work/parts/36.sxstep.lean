/-! sx: the steps -/
noncomputable def sx_p1 (S : List Nat) (K : Nat → List Nat → sx_R) : sx_R := List.rec none (fun a t _ => K a t) S
noncomputable def sx_and (a b : Bool) : Bool := sx_if a b false
noncomputable def sx_ty (t v : Nat) : Bool := sx_if (Nat.beq t 0) (Nat.ble (sx_tg v) 1) (sx_if (Nat.beq t 1) (sx_if (Nat.beq (sx_tg v) 2) true (Nat.beq (sx_tg v) 5)) (Nat.beq (sx_tg v) 4))
noncomputable def sx_mtK (mi : Nat) (K : Nat → Nat → sx_R) : sx_R := sx_if (Nat.blt mi 256) (sx_rdK sx_prog mi K) (sx_rdK sx_qrog (Nat.sub mi 256) K)
def sx_im (f : Nat) : Nat := Nat.mod f 256
def sx_ia (f : Nat) : Nat := Nat.mod (Nat.div f 256) 256
def sx_ihd (f : Nat) : Nat := Nat.div f 65536
def sx_slot (kd fr : Nat) : Nat := Nat.mod (Nat.shiftRight sx_fields (Nat.mul 8 (Nat.add (Nat.mul kd 256) fr))) 256
noncomputable def sx_ix (i : Nat) (sy : sx_Y) (K : Nat → sx_Y → sx_R) : sx_R := sx_nm sy i (fun i => sx_if (Nat.beq (sx_tg i) 0) (K (sx_pl i) sy)
  (sx_if (Nat.beq (sx_tg i) 1) (Option.rec none (fun e => sx_en sy (sx_pl i) e.1 e.2.1 (fun sy => Option.rec none (fun e => sx_fo (sx_bs e.1) (fun x => K x sy)) (sx_nth sy (sx_pl i)))) (sx_nth sy (sx_pl i))) none))
noncomputable def sx_ii (x y : Nat) : Bool := sx_and (Nat.ble (sx_tg x) 1) (Nat.ble (sx_tg y) 1)
/-- the first symbol, and 63: of a symbol with no other below it the last number says the rest of 64, and 1 more -/
noncomputable def sx_bin2 (o x y : Nat) (sy : sx_Y) (K : Nat → sx_Y → sx_R) : sx_R := sx_if (sx_and (Nat.beq o 3) (sx_and (Nat.beq y 504) (Nat.beq x 1)))
  (Option.rec none (fun e => sx_if (sx_and (Nat.beq e.2.2.1 0) (Nat.blt 0 e.2.2.2)) (sx_fo (Nat.mul 8 (Nat.pred e.2.2.2)) (fun v => K v sy)) (sx_bin o x y sy K)) (sx_nth sy 0)) (sx_bin o x y sy K)
section SXStep
variable (ih : sx_ih) (N w d mi cd : Nat) (lst : List sx_I) (pc : Nat) (L S : List Nat) (h : sx_H) (n : Nat) (sy : sx_Y) (cs ss : Nat)
noncomputable def sx_oConst : sx_R := sx_fo (Nat.add pc (sx_wa w)) (fun pc' => sx_fo (sx_wc w) (fun v => ih d mi cd lst false pc' L (v :: S) h n sy cs ss))
noncomputable def sx_oLoad : sx_R := sx_fo (sx_ln L (sx_wa w)) (fun v => sx_if (sx_ty (Nat.div (sx_wb w) 16) v) (sx_fo (Nat.add pc (Nat.mod (sx_wb w) 16)) (fun pc' => ih d mi cd lst false pc' L (v :: S) h n sy cs ss)) none)
noncomputable def sx_oStore : sx_R := sx_p1 S (fun v r => sx_if (sx_ty (Nat.div (sx_wb w) 16) v)
  (sx_if (sx_if (Nat.beq (sx_wa w) 0) true (!Nat.beq (sx_tg (sx_ln L (Nat.pred (sx_wa w)))) 4))
    (sx_fo (Nat.add pc (Nat.mod (sx_wb w) 16)) (fun pc' => sx_if (Nat.beq (Nat.div (sx_wb w) 16) 2)
      (sx_if (Nat.blt (Nat.succ (sx_wa w)) (List.length L)) (sx_stK v L (sx_wa w) (fun L => sx_stK 7 L (Nat.succ (sx_wa w)) (fun L => ih d mi cd lst false pc' L r h n sy cs ss))) none)
      (sx_if (Nat.blt (sx_wa w) (List.length L)) (sx_stK v L (sx_wa w) (fun L => ih d mi cd lst false pc' L r h n sy cs ss)) none))) none) none)
noncomputable def sx_oBin : sx_R := sx_p1 S (fun y r => sx_p1 r (fun x r => sx_if (sx_ii x y) (sx_bin2 (sx_wa w) x y sy (fun v sy => sx_fo (Nat.succ pc) (fun pc' => ih d mi cd lst false pc' L (v :: r) h n sy cs ss))) none))
noncomputable def sx_oIinc : sx_R := sx_if (sx_if (Nat.beq (sx_wa w) 0) true (!Nat.beq (sx_tg (sx_ln L (Nat.pred (sx_wa w)))) 4)) (sx_if (Nat.blt (sx_wa w) (List.length L)) (sx_fo (sx_ln L (sx_wa w)) (fun x => sx_if (Nat.ble (sx_tg x) 1) (sx_bin 0 x (Nat.mul 8 (sx_wc w)) sy (fun v sy => sx_stK v L (sx_wa w) (fun L => sx_fo (Nat.add pc 3) (fun pc' => ih d mi cd lst false pc' L S h n sy cs ss)))) none)) none) none
noncomputable def sx_oIf : sx_R := sx_p1 S (fun x r => sx_if (Nat.ble (sx_tg x) 1) (sx_cmp (sx_wa w) x 0 sy (fun b sy => sx_fo (sx_if b (sx_wb w) (Nat.add pc 3)) (fun pc' => ih d mi cd lst false pc' L r h n sy cs ss))) none)
noncomputable def sx_oIcmp : sx_R := sx_p1 S (fun y r => sx_p1 r (fun x r => sx_if (sx_ii x y) (sx_cmp (sx_wa w) x y sy (fun b sy => sx_fo (sx_if b (sx_wb w) (Nat.add pc 3)) (fun pc' => ih d mi cd lst false pc' L r h n sy cs ss))) none))
noncomputable def sx_oGoto : sx_R := sx_fo (sx_wb w) (fun pc' => ih d mi cd lst false pc' L S h n sy cs ss)
noncomputable def sx_oGet : sx_R := sx_p1 S (fun v r => sx_if (sx_and (Nat.beq (sx_tg v) 2) (Nat.blt (sx_pl v) n))
  (sx_rdK h (sx_pl v) (fun hd ct => sx_fo (sx_slot (Nat.mod hd 256) (sx_wa w)) (fun s => sx_if (Nat.beq s 0) none (sx_fo (sx_get ct (Nat.pred (Nat.mod s 32))) (fun x => sx_fo (Nat.add pc 3) (fun pc' => ih d mi cd lst false pc' L (x :: r) h n sy cs ss)))))) none)
noncomputable def sx_oPut : sx_R := sx_p1 S (fun v r => sx_p1 r (fun o r => sx_if (sx_and (Nat.beq (sx_tg o) 2) (Nat.blt (sx_pl o) n))
  (sx_rdK h (sx_pl o) (fun hd ct => sx_fo (sx_slot (Nat.mod hd 256) (sx_wa w)) (fun s => sx_if (Nat.beq s 0) none
    (sx_if (sx_if (Nat.beq (Nat.div s 32) 0) (Nat.ble (sx_tg v) 1) (sx_if (Nat.beq (Nat.div s 32) 1) (sx_and (Nat.beq (sx_tg v) 0) (Nat.ble (sx_pl v) 1)) (Nat.beq (sx_tg v) 2)))
      (sx_if (Nat.blt v 4722366482869645213696) (sx_fo (sx_set ct (Nat.pred (Nat.mod s 32)) v) (fun ct' => sx_wrK h (sx_pl o) (hd, ct') (fun h => sx_fo (Nat.add pc 3) (fun pc' => ih d mi cd lst false pc' L r h n sy cs ss)))) none) none)))) none))
/-- an array's place: kind 100 ints, 101 longs, 102 objects -/
noncomputable def sx_oAld (kd : Nat) : sx_R := sx_p1 S (fun i r => sx_p1 r (fun a r =>
  sx_if (sx_and (Nat.beq (sx_tg a) 2) (Nat.blt (sx_pl a) n))
    (sx_ix i sy (fun x sy => sx_rdK h (sx_pl a) (fun hd ct => sx_if (sx_and (Nat.beq (Nat.mod hd 256) kd) (Nat.blt x (Nat.div hd 256)))
      (sx_fo (sx_get ct x) (fun v => sx_fo (Nat.succ pc) (fun pc' => sx_if (Nat.beq kd 100) (ih d mi cd lst false pc' L (v :: r) h n sy cs ss)
        (sx_if (Nat.beq kd 101) (sx_fo (Nat.add v 4) (fun v => ih d mi cd lst false pc' L (v :: r) h n sy cs ss))
          (sx_if (Nat.beq v 0) none (ih d mi cd lst false pc' L (v :: r) h n sy cs ss)))))) none)))
    (sx_if (sx_and (Nat.beq a 5) (Nat.beq kd 100)) (sx_ix i sy (fun x sy => sx_if (Nat.blt x N) (sx_nm sy (Nat.succ (Nat.mul 8 x)) (fun v => sx_fo (Nat.succ pc) (fun pc' => ih d mi cd lst false pc' L (v :: r) h n sy cs ss))) none)) none)))
noncomputable def sx_oAst (kd : Nat) : sx_R := sx_p1 S (fun v r => sx_p1 r (fun i r => sx_p1 r (fun a r =>
  sx_if (sx_and (Nat.beq (sx_tg a) 2) (Nat.blt (sx_pl a) n))
    (sx_ix i sy (fun x sy => sx_rdK h (sx_pl a) (fun hd ct => sx_if (sx_and (Nat.beq (Nat.mod hd 256) kd) (Nat.blt x (Nat.div hd 256)))
      (sx_if (sx_if (Nat.beq kd 100) (Nat.ble (sx_tg v) 1) (sx_if (Nat.beq kd 101) (Nat.beq (sx_tg v) 4) (sx_and (Nat.beq (sx_tg v) 2) (sx_and (Nat.blt (sx_pl v) n) (sx_rdK h (sx_pl v) (fun hd _ => Nat.beq (Nat.mod hd 256) sx_tab))))))
        (sx_if (Nat.blt v 4722366482869645213696) (sx_fo (sx_set ct x (sx_if (Nat.beq kd 101) (Nat.sub v 4) v)) (fun ct' => sx_wrK h (sx_pl a) (hd, ct') (fun h => sx_fo (Nat.succ pc) (fun pc' => ih d mi cd lst false pc' L r h n sy cs ss)))) none) none) none))) none)))
noncomputable def sx_oAlen : sx_R := sx_p1 S (fun a r => sx_if (Nat.beq a 5) (sx_fo (Nat.succ pc) (fun pc' => ih d mi cd lst false pc' L (Nat.mul 8 N :: r) h n sy cs ss))
  (sx_if (sx_and (Nat.beq (sx_tg a) 2) (Nat.blt (sx_pl a) n)) (sx_rdK h (sx_pl a) (fun hd _ => sx_if (Nat.ble 100 (Nat.mod hd 256)) (sx_fo (Nat.mul 8 (Nat.div hd 256)) (fun v => sx_fo (Nat.succ pc) (fun pc' => ih d mi cd lst false pc' L (v :: r) h n sy cs ss))) none)) none))
noncomputable def sx_mk (hd ct len ln : Nat) (S : List Nat) : sx_R := sx_if (sx_and (Nat.blt n 256) (sx_and (Nat.blt cs 600002) (Nat.ble (Nat.add ss len) 7302232)))
  (sx_wrK h n (hd, ct) (fun h => sx_fo (Nat.add pc ln) (fun pc' => sx_fo (Nat.add (Nat.mul 8 n) 2) (fun v => sx_fo (Nat.succ n) (fun n => sx_fo (Nat.succ cs) (fun cs => sx_fo (Nat.add ss len) (fun ss => ih d mi cd lst false pc' L (v :: S) h n sy cs ss))))))) none
noncomputable def sx_oNew : sx_R := Option.rec none (fun q => sx_mk ih d mi cd lst pc L h n sy cs ss q.1 q.2 (Nat.div q.1 256) 3 S) (sx_nth sx_cls (sx_wb w))
noncomputable def sx_oNewa (kd ln : Nat) : sx_R := sx_p1 S (fun x r => sx_ix x sy (fun x sy => sx_if (Nat.ble x 5000) (sx_fo (Nat.add kd (Nat.mul 256 x)) (fun hd => sx_mk ih d mi cd lst pc L h n sy cs ss hd 0 x ln r)) none))
/-- behind a call -/
noncomputable def sx_hnd (hh : List (Nat × Nat × Nat × Nat × Nat)) (E : Nat) : Nat := List.rec 0 (fun q _ ih => sx_if (sx_and (Nat.ble q.1 pc) (sx_and (Nat.blt pc q.2.1) (Nat.beq q.2.2.2.1 E))) (Nat.succ q.2.2.1) ih) hh
noncomputable def sx_thr (hid E : Nat) (h : sx_H) (n : Nat) (sy : sx_Y) (cs ss : Nat) : sx_R :=
  sx_if (Nat.beq hid 0) (some [(Nat.add 2 E, 0, h, n, sy, cs, ss)])
    (Option.rec none (fun hh => sx_fo (sx_hnd pc hh E) (fun t => sx_if (Nat.beq t 0) none
      (sx_fo (sx_ft cd (Nat.pred t)) (fun w => sx_if (sx_and (Nat.beq (sx_op w) 3) (sx_and (Nat.beq (Nat.div (sx_wb w) 16) 1) (sx_and (sx_if (Nat.beq (sx_wa w) 0) true (!Nat.beq (sx_tg (sx_ln L (Nat.pred (sx_wa w)))) 4)) (Nat.blt (sx_wa w) (List.length L)))))
        (sx_fo (Nat.add (Nat.pred t) (Nat.mod (sx_wb w) 16)) (fun pc' => sx_stK 7 L (sx_wa w) (fun L => ih d mi cd lst false pc' L [] h n sy cs ss))) none)))) (sx_nth sx_hands hid))
noncomputable def sx_cont (rest : List Nat) (hid : Nat) (outs : List sx_O) : sx_R := List.rec (some []) (fun o _ acc => sx_app (Prod.rec (fun kd q => Prod.rec (fun v q => Prod.rec (fun h q => Prod.rec (fun n q => Prod.rec (fun sy q => Prod.rec (fun cs ss =>
  sx_if (Nat.beq kd 0) (sx_fo (Nat.add pc 3) (fun pc' => ih d mi cd lst false pc' L rest h n sy cs ss))
    (sx_if (Nat.beq kd 1) (sx_fo (Nat.add pc 3) (fun pc' => ih d mi cd lst false pc' L (v :: rest) h n sy cs ss)) (sx_thr ih d mi cd lst pc L hid (Nat.sub kd 2) h n sy cs ss))) q) q) q) q) q) o) acc) outs
noncomputable def sx_call (av rest : List Nat) (mj : Nat) : sx_R := Nat.rec none (fun d' _ => sx_mtK mj (fun cj fj => sx_mtK mi (fun _ f =>
  sx_if (sx_and (sx_and (Nat.blt 0 cj) (Nat.ble (Nat.add (Nat.mul 2 (List.length rest)) (sx_im fj)) 89)) (sx_and (Nat.ble cs 600002) (Nat.ble ss 7302232)))
    (Option.rec none (fun Lj => Option.rec none (fun outs => sx_cont ih d mi cd lst pc L rest (sx_ihd f) outs)
      (ih d' mj cj [] false 0 Lj [] h n sy cs ss)) (sx_xp av (sx_im fj))) none))) d
noncomputable def sx_oInv (vt : Bool) : sx_R := sx_fo (sx_wc w) (fun mj => sx_mtK mj (fun _ fj => sx_tk (sx_ia fj) S [] (fun av rest => sx_if vt
  (sx_p1 av (fun o _ => sx_if (sx_and (Nat.beq (sx_tg o) 2) (Nat.blt (sx_pl o) n)) (sx_rdK h (sx_pl o) (fun hd _ => sx_if (Nat.beq (Nat.mod (Nat.shiftRight (sx_wb w) (Nat.mod hd 256)) 2) 1) (sx_call ih d mi cd lst pc L h n sy cs ss av rest mj) none)) none))
  (sx_call ih d mi cd lst pc L h n sy cs ss av rest mj))))
noncomputable def sx_oInvI : sx_R := sx_fo (sx_wc w) (fun mj => sx_mtK mj (fun _ fj => sx_tk (sx_ia fj) S [] (fun av rest => sx_p1 av (fun o _ => sx_if (sx_and (Nat.beq (sx_tg o) 2) (Nat.blt (sx_pl o) n)) (sx_call ih d mi cd lst pc L h n sy cs ss av rest mj) none))))
noncomputable def sx_oObj : sx_R := sx_p1 S (fun o r => sx_if (sx_and (Nat.beq (sx_tg o) 2) (Nat.ble (List.length r) 40)) (sx_fo (Nat.add pc 3) (fun pc' => ih d mi cd lst false pc' L r h n sy cs ss)) none)
noncomputable def sx_oCpy : sx_R := sx_p1 S (fun ln r => sx_p1 r (fun dp r => sx_p1 r (fun b r => sx_p1 r (fun sp r => sx_p1 r (fun a r =>
  sx_if (sx_and (sx_and (Nat.ble (List.length r) 40) (sx_and (Nat.beq dp 0) (Nat.beq sp 0))) (sx_and (sx_and (Nat.beq (sx_tg a) 2) (Nat.blt (sx_pl a) n)) (sx_and (Nat.beq (sx_tg b) 2) (Nat.blt (sx_pl b) n))))
    (sx_rdK h (sx_pl a) (fun hda cta => sx_rdK h (sx_pl b) (fun hdb _ => sx_if (sx_and (sx_and (Nat.beq (Nat.mod hda 256) 100) (Nat.beq hda hdb)) (sx_and (Nat.blt (Nat.div hda 256) 2147483648) (Nat.beq ln (Nat.mul 8 (Nat.div hda 256)))))
      (sx_wrK h (sx_pl b) (hdb, cta) (fun h => sx_fo (Nat.add pc 3) (fun pc' => ih d mi cd lst false pc' L r h n sy cs ss))) none))) none)))))
noncomputable def sx_nil (S : List Nat) (r : sx_R) : sx_R := List.rec r (fun _ _ _ => none) S
noncomputable def sx_oRet : sx_R := sx_p1 S (fun v r => sx_if (sx_if (Nat.beq (sx_wa w) 0) (Nat.ble (sx_tg v) 1) (sx_if (Nat.beq (sx_wa w) 1) (sx_and (Nat.beq (sx_tg v) 0) (Nat.ble (sx_pl v) 1)) (Nat.beq (sx_tg v) 4))) (sx_nil r (some [(1, v, h, n, sy, cs, ss)])) none)
noncomputable def sx_oThrow : sx_R := sx_mtK mi (fun _ f => sx_if (sx_and (Nat.beq (sx_ihd f) 0) (sx_and (Nat.ble (List.length S) 40) (sx_and (Nat.blt cs 600002) (Nat.ble (Nat.add ss 6) 7302232)))) (sx_fo (Nat.succ cs) (fun cs => sx_fo (Nat.add ss 6) (fun ss => some [(Nat.add 2 (Nat.mod (sx_wb w) 16), 0, h, n, sy, cs, ss)]))) none)
noncomputable def sx_oDup : sx_R := sx_p1 S (fun v r => sx_if (Nat.beq (sx_tg v) 4) none (sx_fo (Nat.succ pc) (fun pc' => ih d mi cd lst false pc' L (v :: v :: r) h n sy cs ss)))
noncomputable def sx_oDup2 : sx_R := sx_p1 S (fun v r => sx_fo (Nat.succ pc) (fun pc' => sx_if (Nat.beq (sx_tg v) 4) (ih d mi cd lst false pc' L (v :: v :: r) h n sy cs ss) (sx_p1 r (fun u r => sx_if (Nat.beq (sx_tg u) 4) none (ih d mi cd lst false pc' L (v :: u :: v :: u :: r) h n sy cs ss)))))
noncomputable def sx_oPop : sx_R := sx_p1 S (fun v r => sx_if (Nat.beq (sx_tg v) 4) none (sx_fo (Nat.succ pc) (fun pc' => ih d mi cd lst false pc' L r h n sy cs ss)))
/-- 0 ineg, 1 i2l, 2 l2i -/
noncomputable def sx_oUn : sx_R := sx_p1 S (fun v r => sx_fo (Nat.succ pc) (fun pc' => sx_if (Nat.beq (sx_wa w) 2)
  (sx_if (Nat.beq (sx_tg v) 4) (sx_fo (sx_i (Int64.ofNat (sx_pl v)).toInt32) (fun v => ih d mi cd lst false pc' L (v :: r) h n sy cs ss)) none)
  (sx_nm sy v (fun v => sx_if (Nat.beq (sx_tg v) 0) (sx_fo (sx_if (Nat.beq (sx_wa w) 0) (sx_i (-(Int32.ofNat (sx_pl v)))) (sx_j (Int32.ofNat (sx_pl v)).toInt64)) (fun v => ih d mi cd lst false pc' L (v :: r) h n sy cs ss)) none))))
/-- 0 ladd, 1 lsub, 2 lmul, 3 ldiv, 4 lcmp -/
noncomputable def sx_lf (o : Nat) (x y : Int64) : Nat := sx_if (Nat.beq o 0) (sx_j (x + y)) (sx_if (Nat.beq o 1) (sx_j (x - y)) (sx_if (Nat.beq o 2) (sx_j (x * y)) (sx_if (Nat.beq o 3) (sx_j (x / y)) (sx_i (lg_cmp x y)))))
noncomputable def sx_oLb : sx_R := sx_p1 S (fun y r => sx_p1 r (fun x r => sx_if (sx_and (Nat.beq (sx_tg x) 4) (sx_and (Nat.beq (sx_tg y) 4) (sx_if (Nat.beq (sx_wa w) 3) (!Nat.beq (Nat.mod (sx_pl y) 18446744073709551616) 0) true)))
  (sx_fo (sx_lf (sx_wa w) (Int64.ofNat (sx_pl x)) (Int64.ofNat (sx_pl y))) (fun v => sx_fo (Nat.succ pc) (fun pc' => ih d mi cd lst false pc' L (v :: r) h n sy cs ss))) none))
/-- a table: where else, from which number on, targets -/
noncomputable def sx_tg1 (q : Nat × Nat × List Nat × Nat) (b : Nat) : Nat := sx_if (Nat.ble q.2.1 b) (Option.rec q.1 (fun t => t) (sx_nth q.2.2.1 (Nat.sub b q.2.1))) q.1
noncomputable def sx_oSw : sx_R := sx_p1 S (fun v r => Option.rec none (fun q => sx_nm sy v (fun v => sx_if (Nat.beq (sx_tg v) 0) (sx_fo (sx_tg1 q (sx_bs (sx_pl v))) (fun pc' => ih d mi cd lst false pc' L r h n sy cs ss))
  (sx_if (Nat.beq (sx_tg v) 1) (Option.rec none (fun e =>
    sx_app (sx_if (Nat.beq q.2.1 0) (some []) (sx_rf sy (sx_pl v) e.1 (sx_mn e.2.1 (Nat.pred q.2.1)) (fun sy => ih d mi cd lst false q.1 L r h n sy cs ss)))
      (sx_app (sx_rf sy (sx_pl v) (sx_mx e.1 (Nat.add q.2.1 (List.length q.2.2.1))) e.2.1 (fun sy => ih d mi cd lst false q.1 L r h n sy cs ss))
        (sx_fo (sx_mx e.1 q.2.1) (fun lo => sx_fo (sx_mn e.2.1 (Nat.pred (Nat.add q.2.1 (List.length q.2.2.1)))) (fun hi => sx_en sy (sx_pl v) lo hi (fun sy => Option.rec none (fun e => sx_fo (sx_tg1 q e.1) (fun pc' => ih d mi cd lst false pc' L r h n sy cs ss)) (sx_nth sy (sx_pl v)))))))) (sx_nth sy (sx_pl v))) none))) (sx_nth sx_tsw (sx_wa w)))
/-- a String is named -/
noncomputable def sx_oLdcS : sx_R := sx_if (Nat.blt (sx_wa w) sx_ns) (sx_fo (Nat.add pc (sx_wb w)) (fun pc' => sx_fo (Nat.add (Nat.mul 8 (Nat.add 2 (sx_wa w))) 5) (fun v => ih d mi cd lst false pc' L (v :: S) h n sy cs ss))) none
noncomputable def sx_oGets : sx_R := sx_fo (Nat.add pc 3) (fun pc' => sx_fo (sx_wc w) (fun v => ih d mi cd lst false pc' L (v :: S) h n sy cs ss))
noncomputable def sx_isS (v : Nat) : Bool := sx_and (Nat.beq (sx_tg v) 5) (sx_and (Nat.ble 2 (sx_pl v)) (Nat.blt (sx_pl v) (Nat.add 2 sx_ns)))
/-- a field of a String's: 0 its coder, 1 its bytes -/
noncomputable def sx_oSget : sx_R := sx_p1 S (fun v r => sx_if (sx_isS v)
  (sx_fo (Nat.add pc 3) (fun pc' => sx_if (Nat.beq (sx_wb w) 0) (ih d mi cd lst false pc' L (0 :: r) h n sy cs ss) (sx_fo (Nat.add (Nat.mul 8 (Nat.add (sx_pl v) sx_ns)) 5) (fun v => ih d mi cd lst false pc' L (v :: r) h n sy cs ss)))) none)
noncomputable def sx_isB (v : Nat) : Bool := sx_and (Nat.beq (sx_tg v) 5) (Nat.ble (Nat.add 2 sx_ns) (sx_pl v))
noncomputable def sx_oBald : sx_R := sx_p1 S (fun i r => sx_p1 r (fun a r => sx_if (sx_isB a)
  (Option.rec none (fun t => sx_ix i sy (fun x sy => Option.rec none (fun z => sx_fo (Nat.succ pc) (fun pc' => sx_fo (Nat.mul 8 z) (fun v => ih d mi cd lst false pc' L (v :: r) h n sy cs ss))) (sx_nth t x))) (sx_nth sx_sb (Nat.sub (sx_pl a) (Nat.add 2 sx_ns)))) none))
noncomputable def sx_oIald : sx_R := sx_p1 S (fun i r => sx_p1 r (fun a r => sx_if (Nat.beq a 13)
  (sx_ix i sy (fun x sy => Option.rec none (fun z => sx_fo (Nat.succ pc) (fun pc' => sx_fo (Nat.mul 8 z) (fun v => ih d mi cd lst false pc' L (v :: r) h n sy cs ss))) (sx_nth sx_ordv x)))
  (sx_oAld ih N d mi cd lst pc L S h n sy cs ss 100)))
noncomputable def sx_oAlenX : sx_R := sx_p1 S (fun a r => sx_if (sx_isB a)
  (Option.rec none (fun t => sx_fo (Nat.succ pc) (fun pc' => sx_fo (Nat.mul 8 (List.length t)) (fun v => ih d mi cd lst false pc' L (v :: r) h n sy cs ss))) (sx_nth sx_sb (Nat.sub (sx_pl a) (Nat.add 2 sx_ns))))
  (sx_oAlen ih N d mi cd lst pc L S h n sy cs ss))
noncomputable def sx_oInvX : sx_R := sx_fo (sx_wc w) (fun mj => sx_mtK mj (fun _ fj => sx_tk (sx_ia fj) S [] (fun av rest => sx_p1 av (fun o _ => sx_if (sx_isS o) (sx_call ih d mi cd lst pc L h n sy cs ss av rest mj) none))))
/-- a call with two targets: a word for each -/
def sx_w1 (w : Nat) : Nat := Nat.add (Nat.mod w 549755813888) (Nat.mul 549755813888 (Nat.mod (sx_wc w) 1024))
def sx_w2 (w : Nat) : Nat := Nat.add (Nat.add (Nat.mod w 8388608) (Nat.mul 8388608 (Nat.mod (Nat.div (sx_wc w) 1024) 4096))) (Nat.mul 549755813888 (Nat.div (sx_wc w) 4194304))
noncomputable def sx_oInvW : sx_R := sx_p1 S (fun o _ => sx_rdK h (sx_pl o) (fun hd _ => sx_if (Nat.beq (Nat.mod (Nat.shiftRight (sx_wb w) (Nat.mod hd 256)) 2) 1)
  (sx_fo (sx_w1 w) (fun w => sx_oInv ih w d mi cd lst pc L S h n sy cs ss true)) (sx_fo (sx_w2 w) (fun w => sx_oInv ih w d mi cd lst pc L S h n sy cs ss true))))
noncomputable def sx_oLcon : sx_R := Option.rec none (fun t => sx_fo (sx_j t.2.2) (fun v => sx_fo (Nat.add pc 3) (fun pc' => ih d mi cd lst false pc' L (v :: S) h n sy cs ss))) (sx_nth sx_cg (sx_wa w))
noncomputable def sx_oI2c : sx_R := sx_p1 S (fun v r => sx_nm sy v (fun v => sx_if (sx_and (Nat.beq (sx_tg v) 0) (Nat.blt (sx_pl v) 65536)) (sx_fo (Nat.succ pc) (fun pc' => ih d mi cd lst false pc' L (v :: r) h n sy cs ss)) none))
/-- an end with a byte (0) or a char (1) -/
noncomputable def sx_oRetN : sx_R := sx_p1 S (fun v r => sx_if (sx_and (Nat.beq (sx_tg v) 0) (Nat.blt (sx_pl v) (sx_if (Nat.beq (sx_wa w) 0) 128 65536))) (sx_nil r (some [(1, v, h, n, sy, cs, ss)])) none)
end SXStep
