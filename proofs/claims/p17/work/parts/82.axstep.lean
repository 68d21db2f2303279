/-! ax: the steps -/
/-- a contract: method, depth, arguments ((0, v, _) just v; (1, lo, hi) an int of these bounds), places that must be so, places that may be written (bits), 1 where it answers how many bits the argument has, ends: kind and 16 times the throws, answer (0 none, 1 an int of lo to hi, 2 a long), lo, hi, places then: cell, place, lo, hi, 1 + how much more than before at least -/
abbrev ax_P : Type := Nat × Nat × Nat × Nat × Nat
abbrev ax_T : Type := Nat × Nat × Nat × Nat × List ax_P
abbrev ax_C : Type := Nat × Nat × List (Nat × Nat × Nat) × List (Nat × Nat × Nat × Nat) × Nat × Nat × List ax_T
/-- a loop's head: its place, locals and places that change, with bounds; what isn't known any more (bits); by what it ends: 0 the local, 1 the place of that number; 1 up, 0 down -/
abbrev ax_H : Type := Nat × List (Nat × Nat × Nat × Nat) × List (Nat × Nat × Nat × Nat) × Nat × Nat × Nat × Nat
/-- a head that stands open: place, 0; locals; memo; places: cell, place, symbol, bounds, what was there; locals that change; by what it ends. Or place, 1: the law's own -/
abbrev ax_I : Type := Nat × Nat × List Nat × ax_M × List (Nat × Nat × Nat × Nat × Nat × Nat) × List (Nat × Nat × Nat × Nat) × Nat × Nat × Nat
/-- a run: what may be written, whether places of arrays are kept in mind, contracts by method, heads by method, where the value on the stack is taken one by one, the script's length, throws at most, calls (from, to) that no contract stands for -/
abbrev ax_G : Type := Nat × Nat × List (Nat × List ax_C) × List (Nat × Nat × List ax_H) × List (Nat × Nat × Nat) × Nat × Nat × List (Nat × Nat)
abbrev ax_ih : Type := Nat → Nat → Nat → List ax_I → Bool → Nat → List Nat → List Nat → ax_M → ax_F → ax_Y → Nat → Nat → ax_R
noncomputable def ax_p1 (S : List Nat) (K : Nat → List Nat → ax_R) : ax_R := List.rec none (fun a t _ => K a t) S
noncomputable def ax_lg (v : Nat) : Bool := sx_if (Nat.beq (sx_tg v) 4) true (sx_if (Nat.beq v 23) true (Nat.beq v 31))
/-- no long for sure -/
noncomputable def ax_nl (v : Nat) : Bool := sx_if (ax_lg v) false (!Nat.beq v 39)
noncomputable def ax_ty (t v : Nat) : Bool := sx_if (Nat.beq t 0) (Nat.ble (sx_tg v) 1) (sx_if (Nat.beq t 1) (sx_if (Nat.beq (sx_tg v) 2) true (Nat.beq (sx_tg v) 5)) (ax_lg v))
/-- a number, no cell but the table's, no symbol -/
noncomputable def ax_kc (v : Nat) : Bool := sx_if (Nat.beq (sx_tg v) 0) (Nat.blt v 34359738368) (sx_if (Nat.beq (sx_tg v) 2) (Nat.blt (sx_pl v) 160) (sx_if (Nat.beq v 15) true (sx_and (Nat.ble 3 (sx_tg v)) (Nat.ble (sx_tg v) 6))))
noncomputable def ax_in (Y : ax_Y) (n a lo hi : Nat) : Bool := ax_rg false Y n a (fun l u => sx_and (Nat.ble lo l) (Nat.ble u hi))
noncomputable def ax_mtK (mi : Nat) (K : Nat → Nat → ax_R) : ax_R := sx_if (Nat.blt mi 256) (sx_rdK sx_prog mi K) (sx_rdK sx_qrog (Nat.sub mi 256) K)
/-- n of the stack, the last one first -/
noncomputable def ax_tk (n : Nat) : List Nat → List Nat → (List Nat → List Nat → ax_R) → ax_R := Nat.rec (fun S acc K => K acc S) (fun _ ih S acc K => List.rec none (fun v t _ => ih t (v :: acc) K) S) n
noncomputable def ax_xp (av : List Nat) : Nat → Option (List Nat) := List.rec (fun n => some (sx_pd n)) (fun v _ ih n => Nat.rec none (fun n' _ => sx_if (ax_lg v) (Nat.rec none (fun n2 _ => Option.map (fun t => v :: 7 :: t) (ih n2)) n') (sx_if (ax_nl v) (Option.map (fun t => v :: t) (ih n')) none)) n) av
section AXStep
variable (ih : ax_ih) (g : ax_G) (w d mi cd : Nat) (lst : List ax_I) (pc : Nat) (L S : List Nat) (M : ax_M) (F : ax_F) (Y : ax_Y) (n th : Nat)
/-- on with L, S at p -/
noncomputable def ax_on (p : Nat) (L S : List Nat) (M : ax_M) (F : ax_F) (Y : ax_Y) (n : Nat) : ax_R := sx_fo p (fun p => ih d mi cd lst false p L S M F Y n th)
noncomputable def ax_oConst : ax_R := sx_fo (sx_wc w) (fun v => sx_if (ax_kc v) (ax_on ih d mi cd lst th (Nat.add pc (sx_wa w)) L (v :: S) M F Y n) none)
noncomputable def ax_oLoad : ax_R := sx_fo (sx_ln L (sx_wa w)) (fun v => sx_if (ax_ty (Nat.div (sx_wb w) 16) v) (ax_on ih d mi cd lst th (Nat.add pc (Nat.mod (sx_wb w) 16)) L (v :: S) M F Y n) none)
noncomputable def ax_pv (a : Nat) : Bool := sx_if (Nat.beq a 0) true (ax_nl (sx_ln L (Nat.pred a)))
noncomputable def ax_oStore : ax_R := ax_p1 S (fun v r => sx_if (sx_and (ax_ty (Nat.div (sx_wb w) 16) v) (ax_pv L (sx_wa w)))
  (sx_if (Nat.beq (Nat.div (sx_wb w) 16) 2)
    (sx_if (Nat.blt (Nat.succ (sx_wa w)) (List.length L)) (sx_stK v L (sx_wa w) (fun L => sx_stK 7 L (Nat.succ (sx_wa w)) (fun L => ax_on ih d mi cd lst th (Nat.add pc (Nat.mod (sx_wb w) 16)) L r M F Y n))) none)
    (sx_if (Nat.blt (sx_wa w) (List.length L)) (sx_stK v L (sx_wa w) (fun L => ax_on ih d mi cd lst th (Nat.add pc (Nat.mod (sx_wb w) 16)) L r M F Y n)) none)) none)
noncomputable def ax_ii (x y : Nat) : Bool := sx_and (Nat.ble (sx_tg x) 1) (Nat.ble (sx_tg y) 1)
noncomputable def ax_oBin : ax_R := ax_p1 S (fun y r => ax_p1 r (fun x r => sx_if (sx_and (Nat.ble (sx_wa w) 10) (ax_ii x y)) (ax_bin (sx_wa w) x y F Y n (fun v Y n => ax_on ih d mi cd lst th (Nat.succ pc) L (v :: r) M F Y n)) none))
noncomputable def ax_oIinc : ax_R := sx_if (sx_and (Nat.blt (sx_wc w) 4294967296) (sx_and (ax_pv L (sx_wa w)) (Nat.blt (sx_wa w) (List.length L)))) (sx_fo (sx_ln L (sx_wa w)) (fun x => sx_if (Nat.ble (sx_tg x) 1) (ax_bin 0 x (Nat.mul 8 (sx_wc w)) F Y n (fun v Y n => sx_stK v L (sx_wa w) (fun L => ax_on ih d mi cd lst th (Nat.add pc 3) L S M F Y n))) none)) none
noncomputable def ax_oIf : ax_R := ax_p1 S (fun x r => sx_if (Nat.ble (sx_tg x) 1) (ax_cmp (sx_wa w) x 0 F Y n (fun b F Y => ax_on ih d mi cd lst th (sx_if b (sx_wb w) (Nat.add pc 3)) L r M F Y n)) none)
noncomputable def ax_oIcmp : ax_R := ax_p1 S (fun y r => ax_p1 r (fun x r => sx_if (ax_ii x y) (ax_cmp (sx_wa w) x y F Y n (fun b F Y => ax_on ih d mi cd lst th (sx_if b (sx_wb w) (Nat.add pc 3)) L r M F Y n)) none))
noncomputable def ax_oGoto : ax_R := ax_on ih d mi cd lst th (sx_wb w) L S M F Y n
/-- what is at the place key of the cell c, which is lo to hi of it -/
noncomputable def ax_ld (arr : Bool) (c key lo hi per : Nat) (l : List ax_S) (M : ax_M) (Y : ax_Y) (n : Nat) (K : Nat → ax_M → ax_Y → Nat → ax_R) : ax_R :=
  Option.rec
    (sx_if (sx_and (Nat.ble per hi) (Nat.blt lo hi)) (ax_fr Y n 0 4294967295 0 6 c key (fun v Y n => K v (sx_if (sx_and arr (Nat.beq g.2.1 0)) M ((c, key, v) :: M)) Y n))
      (Option.rec (Option.rec none (fun q => ax_fr Y n q.1 q.2 0 6 c key (fun v Y n => K v (sx_if (sx_and arr (Nat.beq g.2.1 0)) M ((c, key, v) :: M)) Y n)) (ax_sj l (Nat.mod lo per) (sx_if (Nat.beq lo hi) (Nat.mod lo per) hi) 0 4294967295 0))
        (fun s => sx_if (Nat.beq s.2.1 0) (ax_fn Y n s.2.2.1 s.2.2.2.1 0 0 0 (fun v Y n => K v (sx_if (sx_and arr (Nat.beq g.2.1 0)) M ((c, key, v) :: M)) Y n))
          (sx_if (Nat.beq s.2.1 1) (K s.2.2.1 M Y n)
            (sx_if (Nat.beq s.2.1 2) (ax_app (K s.2.2.1 ((c, key, s.2.2.1) :: M) Y n) (K s.2.2.2.1 ((c, key, s.2.2.2.1) :: M) Y n))
              (sx_if (Nat.beq s.2.1 4) (ax_app (ax_fn Y n s.2.2.1 s.2.2.2.1 0 0 0 (fun v Y n => K v (sx_if (sx_and arr (Nat.beq g.2.1 0)) M ((c, key, v) :: M)) Y n)) (ax_fn Y n s.2.2.2.2.1 s.2.2.2.2.2 0 0 0 (fun v Y n => K v (sx_if (sx_and arr (Nat.beq g.2.1 0)) M ((c, key, v) :: M)) Y n))) none))))
        (ax_sg l (Nat.mod lo per) (sx_if (Nat.beq lo hi) (Nat.mod lo per) hi))))
    (fun v => K v M Y n) (ax_mg M c key)
/-- v was read from a place of a cell of the same layout: of periods 364 and 764 -/
noncomputable def ax_fm (key hi per v : Nat) (Y : ax_Y) (n : Nat) : Bool := ax_mk false Y n v (fun op c k => sx_and (Nat.beq op 6) (ax_gK ax_gt c (fun _ per' _ => sx_and (sx_and (Nat.beq (sx_tg key) 1) (sx_and (Nat.beq (sx_tg k) 1) (Nat.beq (ax_k key) (ax_k k))))
  (sx_if (sx_and (Nat.beq per 364) (Nat.beq per' 364)) (Nat.beq (Nat.mod (ax_o key) 364) (Nat.mod (ax_o k) 364))
    (sx_if (sx_and (Nat.beq per 764) (Nat.beq per' 764)) (Nat.beq key k)
      (sx_if (sx_and (Nat.beq per 764) (Nat.beq per' 364)) (sx_and (Nat.blt hi 364) (Nat.beq (Nat.mod (ax_o key) 364) (Nat.mod (ax_o k) 364)))
        (sx_and (sx_and (Nat.beq per 364) (Nat.beq per' 764)) (sx_and (ax_rg false Y n k (fun _ kh => Nat.blt kh 2147484012)) (Nat.beq (Nat.mod (ax_o key) 364) (Nat.mod (ax_o k) 364))))))))))
/-- v may stand at lo to hi -/
noncomputable def ax_ok (key lo hi per v : Nat) (l : List ax_S) (Y : ax_Y) (n : Nat) : Bool :=
  sx_if (ax_fm key hi per v Y n) true (sx_if (sx_and (Nat.ble per hi) (Nat.blt lo hi)) false
    (Option.rec (Option.rec false (fun q => ax_in Y n v q.1 q.2) (ax_sm l (Nat.mod lo per) (sx_if (Nat.beq lo hi) (Nat.mod lo per) hi) 0 0 4294967295))
      (fun s => sx_if (Nat.beq s.2.1 0) (ax_in Y n v s.2.2.1 s.2.2.2.1) (sx_if (Nat.beq s.2.1 1) (Nat.beq v s.2.2.1) (sx_if (Nat.beq s.2.1 2) (sx_if (Nat.beq v s.2.2.1) true (Nat.beq v s.2.2.2.1)) (sx_if (Nat.beq s.2.1 4) (sx_if (ax_in Y n v s.2.2.1 s.2.2.2.1) true (ax_in Y n v s.2.2.2.2.1 s.2.2.2.2.2)) false))))
      (ax_sg l (Nat.mod lo per) (sx_if (Nat.beq lo hi) (Nat.mod lo per) hi))))
noncomputable def ax_oGet : ax_R := ax_p1 S (fun o r => sx_if (Nat.beq (sx_tg o) 2)
  (ax_gK ax_gt (sx_pl o) (fun hd per l => sx_fo (sx_slot (Nat.mod hd 256) (sx_wa w)) (fun s => sx_if (Nat.beq s 0) none (sx_fo (Nat.pred (Nat.mod s 32)) (fun j => sx_if (Nat.blt j (Nat.div hd 256))
    (ax_ld g false (sx_pl o) (Nat.mul 8 j) j j per l M Y n (fun v M Y n => ax_on ih d mi cd lst th (Nat.add pc 3) L (v :: r) M F Y n)) none))))) none)
noncomputable def ax_oPut : ax_R := ax_p1 S (fun v r => ax_p1 r (fun o r => sx_if (Nat.beq (sx_tg o) 2)
  (ax_gK ax_gt (sx_pl o) (fun hd per l => sx_fo (sx_slot (Nat.mod hd 256) (sx_wa w)) (fun s => sx_if (Nat.beq s 0) none (sx_fo (Nat.pred (Nat.mod s 32)) (fun j => sx_fo (sx_pl o) (fun c =>
    sx_if (sx_and (sx_and (Nat.blt j (Nat.div hd 256)) (sx_and (Nat.blt (Nat.mod hd 256) 100) (sx_if (Nat.beq (Nat.div s 32) 0) (Nat.ble (sx_tg v) 1) (sx_if (Nat.beq (Nat.div s 32) 1) (ax_in Y n v 2147483648 2147483649) (Nat.beq (sx_tg v) 2))))) (sx_and (sx_and (ax_tb g.1 (ax_bit false c j)) (ax_kg g.1 c j j v)) (ax_ok 0 j j per v l Y n))) (sx_fo (Nat.mul 8 j) (fun key => ax_on ih d mi cd lst th (Nat.add pc 3) L r ((c, key, v) :: ax_mf Y n c (Nat.add j 2147483648) (Nat.add j 2147483648) M) F Y n)) none)))))) none))
/-- an index within an array of len places: lo, hi -/
noncomputable def ax_ix (i len : Nat) (K : Nat → Nat → Nat → ax_R) : ax_R := ax_nm Y n i (fun i => ax_rg none Y n i (fun lo hi => sx_if (sx_and (Nat.ble 2147483648 lo) (Nat.blt hi (Nat.add 2147483648 len))) (sx_fo (Nat.sub lo 2147483648) (fun lo => sx_fo (Nat.sub hi 2147483648) (fun hi => K i lo hi))) none))
noncomputable def ax_oIald : ax_R := ax_p1 S (fun i r => ax_p1 r (fun a r => sx_if (Nat.beq (sx_tg a) 2)
  (ax_gK ax_gt (sx_pl a) (fun hd per l => sx_if (Nat.beq (Nat.mod hd 256) 100) (ax_ix Y n i (Nat.div hd 256) (fun i lo hi => sx_fo (sx_pl a) (fun c => ax_ld g true c i lo hi per l M Y n (fun v M Y n => ax_on ih d mi cd lst th (Nat.succ pc) L (v :: r) M F Y n)))) none))
  (sx_if (Nat.beq a 13) (ax_ix Y n i 9 (fun _ lo hi => Option.rec none (fun x => Option.rec none (fun y => ax_fn Y n (Nat.add 2147483648 x) (Nat.add 2147483648 y) 0 0 0 (fun v Y n => ax_on ih d mi cd lst th (Nat.succ pc) L (v :: r) M F Y n)) (sx_nth sx_ordv hi)) (sx_nth sx_ordv lo)))
    (sx_if (Nat.beq a 5) (ax_nm Y n i (fun i => sx_if (sx_and (Nat.beq (sx_tg g.2.2.2.2.2.1) 1) (sx_and (ax_in Y n i 2147483648 4294967295) (ax_le F Y n i 1 40 g.2.2.2.2.2.1)))
      (Option.rec (ax_any Y n (fun v Y n => ax_on ih d mi cd lst th (Nat.succ pc) L (v :: r) ((999, i, v) :: M) F Y n)) (fun v => ax_on ih d mi cd lst th (Nat.succ pc) L (v :: r) M F Y n) (ax_mg M 999 i)) none)) none))))
noncomputable def ax_oIast : ax_R := ax_p1 S (fun v r => ax_p1 r (fun i r => ax_p1 r (fun a r => sx_if (Nat.beq (sx_tg a) 2)
  (ax_gK ax_gt (sx_pl a) (fun hd per l => sx_if (Nat.beq (Nat.mod hd 256) 100) (ax_ix Y n i (Nat.div hd 256) (fun i lo hi => sx_fo (sx_pl a) (fun c => sx_if (sx_and (sx_and (ax_tb g.1 (ax_bit true c 0)) (ax_kg g.1 c lo hi 1)) (ax_ok i lo hi per v l Y n))
    (ax_on ih d mi cd lst th (Nat.succ pc) L r (sx_if (Nat.beq g.2.1 0) (ax_mf Y n c (Nat.add lo 2147483648) (Nat.add hi 2147483648) M) ((c, i, v) :: ax_mf Y n c (Nat.add lo 2147483648) (Nat.add hi 2147483648) M)) F Y n) none))) none)) none)))
noncomputable def ax_oLald : ax_R := ax_p1 S (fun i r => ax_p1 r (fun a r => sx_if (Nat.beq (sx_tg a) 2)
  (ax_gK ax_gt (sx_pl a) (fun hd _ _ => sx_if (Nat.beq (Nat.mod hd 256) 101) (ax_ix Y n i (Nat.div hd 256) (fun _ _ _ => ax_on ih d mi cd lst th (Nat.succ pc) L (23 :: r) M F Y n)) none)) none))
noncomputable def ax_oLast : ax_R := ax_p1 S (fun v r => ax_p1 r (fun i r => ax_p1 r (fun a r => sx_if (sx_and (ax_lg v) (Nat.beq (sx_tg a) 2))
  (ax_gK ax_gt (sx_pl a) (fun hd _ _ => sx_if (sx_and (Nat.beq (Nat.mod hd 256) 101) (ax_tb g.1 (ax_bit true (sx_pl a) 0))) (ax_ix Y n i (Nat.div hd 256) (fun _ lo hi => ax_on ih d mi cd lst th (Nat.succ pc) L r (ax_mf Y n (sx_pl a) (Nat.add lo 2147483648) (Nat.add hi 2147483648) M) F Y n)) none)) none)))
noncomputable def ax_oAald : ax_R := ax_p1 S (fun i r => ax_p1 r (fun a r => sx_if (Nat.beq (sx_tg a) 2)
  (ax_gK ax_gt (sx_pl a) (fun hd per l => sx_if (Nat.beq (Nat.mod hd 256) 102) (ax_en Y n i 64 (fun z Y => sx_if (sx_and (Nat.ble 2147483648 z) (Nat.blt z (Nat.add 2147483648 (Nat.div hd 256))))
    (sx_fo (Nat.sub z 2147483648) (fun j => Option.rec none (fun s => sx_if (sx_and (Nat.beq s.2.1 1) (Nat.beq (sx_tg s.2.2.1) 2)) (ax_on ih d mi cd lst th (Nat.succ pc) L (s.2.2.1 :: r) M F Y n) none) (ax_sg l (Nat.mod j per) (Nat.mod j per)))) none)) none)) none))
noncomputable def ax_oAlen : ax_R := ax_p1 S (fun a r => sx_if (Nat.beq (sx_tg a) 2)
  (ax_gK ax_gt (sx_pl a) (fun hd _ _ => sx_if (sx_and (Nat.ble 100 (Nat.mod hd 256)) (Nat.blt hd 1099511627776)) (sx_fo (Nat.mul 8 (Nat.div hd 256)) (fun v => ax_on ih d mi cd lst th (Nat.succ pc) L (v :: r) M F Y n)) none))
  (sx_if (sx_isB a) (Option.rec none (fun t => sx_if (Nat.blt (List.length t) 4294967296) (sx_fo (Nat.mul 8 (List.length t)) (fun v => ax_on ih d mi cd lst th (Nat.succ pc) L (v :: r) M F Y n)) none) (sx_nth sx_sb (Nat.sub (sx_pl a) (Nat.add 2 sx_ns))))
    (sx_if (sx_and (Nat.beq a 5) (Nat.beq (sx_tg g.2.2.2.2.2.1) 1)) (ax_on ih d mi cd lst th (Nat.succ pc) L (g.2.2.2.2.2.1 :: r) M F Y n) none)))
/-! behind a call -/
noncomputable def ax_thr (hid E : Nat) (M : ax_M) (F : ax_F) (Y : ax_Y) (n th : Nat) : ax_R :=
  sx_if (Nat.beq hid 0) (some [(Nat.add 2 E, 0, M, F, Y, n, th)])
    (Option.rec none (fun hh => sx_fo (sx_hnd pc hh E) (fun t => sx_if (Nat.beq t 0) none
      (sx_fo (sx_ft cd (Nat.pred t)) (fun w => sx_if (sx_and (Nat.beq (sx_op w) 3) (sx_and (Nat.beq (Nat.div (sx_wb w) 16) 1) (sx_and (ax_pv L (sx_wa w)) (Nat.blt (sx_wa w) (List.length L)))))
        (sx_stK 7 L (sx_wa w) (fun L => ax_on ih d mi cd lst th (Nat.add (Nat.pred t) (Nat.mod (sx_wb w) 16)) L [] M F Y n)) none)))) (sx_nth sx_hands hid))
noncomputable def ax_cont (rest : List Nat) (hid : Nat) (outs : List ax_O) : ax_R := List.rec (some []) (fun o _ acc => ax_app (Prod.rec (fun kd q => Prod.rec (fun v q => Prod.rec (fun M q => Prod.rec (fun F q => Prod.rec (fun Y q => Prod.rec (fun n th =>
  sx_if (Nat.beq kd 0) (ax_on ih d mi cd lst th (Nat.add pc 3) L rest M F Y n)
    (sx_if (Nat.beq kd 1) (ax_on ih d mi cd lst th (Nat.add pc 3) L (v :: rest) M F Y n) (ax_thr ih d mi cd lst pc L hid (Nat.sub kd 2) M F Y n th))) q) q) q) q) q) o) acc) outs
/-! contracts -/
noncomputable def ax_am (Y : ax_Y) (n : Nat) (as : List (Nat × Nat × Nat)) : List Nat → Bool := List.rec (fun av => List.rec true (fun _ _ _ => false) av) (fun q _ ih av => List.rec false (fun v t _ => sx_and (sx_if (Nat.beq q.1 0) (Nat.beq v q.2.1) (sx_if (Nat.beq q.1 2) (ax_lg v) (ax_in Y n v q.2.1 q.2.2))) (ih t)) av) as
noncomputable def ax_pm (M : ax_M) (Y : ax_Y) (n : Nat) (ps : List (Nat × Nat × Nat × Nat)) : Bool := List.rec true (fun q _ ih => sx_and (sx_and (Nat.blt q.1 160) (Option.rec false (fun v => ax_in Y n v q.2.2.1 q.2.2.2) (ax_mg M q.1 (Nat.mul 8 q.2.1)))) ih) ps
/-- without what may have been written -/
noncomputable def ax_dr (md : Nat) (M : ax_M) : ax_M := List.rec [] (fun m _ ih => sx_if (Nat.beq m.1 999) (m :: ih) (ax_gK ax_gt m.1 (fun hd _ _ => sx_if (ax_tb md (ax_bit (Nat.ble 100 (Nat.mod hd 256)) m.1 (sx_pl m.2.1))) ih (m :: ih)))) M
/-- the places then -/
noncomputable def ax_ps (M0 : ax_M) (ps : List ax_P) : ax_M → ax_Y → Nat → (ax_M → ax_Y → Nat → ax_R) → ax_R := List.rec (fun M Y n K => K M Y n) (fun q _ ih M Y n K =>
  ax_fr Y n q.2.2.1 q.2.2.2.1 (sx_if (Nat.beq q.2.2.2.2 0) 0 (Option.rec 0 (fun v => sx_if (Nat.beq (sx_tg v) 1) (Nat.succ (Nat.add v (Nat.mul 524288 (Nat.pred q.2.2.2.2)))) 0) (ax_mg M0 q.1 (Nat.mul 8 q.2.1)))) 0 0 0
    (fun v Y n => sx_fo (Nat.mul 8 q.2.1) (fun key => ih ((q.1, key, v) :: M) Y n K))) ps
noncomputable def ax_to (fn a0 : Nat) (M0 : ax_M) (M : ax_M) (ts : List ax_T) : ax_R := List.rec (some []) (fun q _ acc => ax_app
  (sx_fo (Nat.add th (Nat.div q.1 16)) (fun th => sx_fo (Nat.mod q.1 16) (fun kd => sx_if (Nat.beq q.2.1 1) (ax_fn Y n q.2.2.1 q.2.2.2.1 (sx_if (Nat.beq fn 1) 4 0) a0 0 (fun v Y n => ax_ps M0 q.2.2.2.2 M Y n (fun M Y n => some [(kd, v, M, F, Y, n, th)])))
    (ax_ps M0 q.2.2.2.2 M Y n (fun M Y n => some [(kd, sx_if (Nat.beq q.2.1 2) 23 39, M, F, Y, n, th)]))))) acc) ts
/-- the first contract that fits -/
noncomputable def ax_fc (mj : Nat) (av : List Nat) (d : Nat) (cs : List ax_C) : Option ax_C := List.rec none (fun c _ ih => sx_if (sx_and (sx_and (Nat.beq c.1 mj) (Nat.ble c.2.1 d)) (sx_and (ax_am Y n c.2.2.1 av) (ax_pm M Y n c.2.2.2.1))) (some c) ih) cs
noncomputable def ax_us (l : List (Nat × List ax_C)) (mj : Nat) : List ax_C := List.rec [] (fun q _ ih => sx_if (Nat.beq q.1 mj) q.2 ih) l
noncomputable def ax_bl (l : List (Nat × Nat)) (mi mj : Nat) : Bool := List.rec false (fun q _ ih => sx_if (sx_and (Nat.beq q.1 mi) (Nat.beq q.2 mj)) true ih) l
noncomputable def ax_by (c : ax_C) (av : List Nat) : ax_R :=
  sx_if (sx_and (Nat.beq (Nat.land c.2.2.2.2.1 g.1) c.2.2.2.2.1) (Nat.blt th g.2.2.2.2.2.2.1)) (List.rec none (fun a0 _ _ => ax_nm Y n a0 (fun a0 => sx_if (sx_if (Nat.beq c.2.2.2.2.2.1 1) (ax_in Y n a0 2147483648 2147483903) true) (ax_to F Y n th c.2.2.2.2.2.1 a0 M (ax_dr c.2.2.2.2.1 M) c.2.2.2.2.2.2) none)) (av ++ [0])) none
noncomputable def ax_call (av rest : List Nat) (mj : Nat) : ax_R := Nat.rec none (fun d' _ => ax_mtK mj (fun cj fj => ax_mtK mi (fun _ f =>
  sx_if (sx_and (Nat.blt 0 cj) (Nat.ble (Nat.add (Nat.mul 2 (List.length rest)) (sx_im fj)) 89))
    (Option.rec none (fun Lj => Option.rec none (fun outs => ax_cont ih d mi cd lst pc L rest (sx_ihd f) outs)
      (Option.rec (ih d' mj cj [] false 0 Lj [] M F Y n th) (fun c => ax_by g M F Y n th c av) (ax_fc M Y n mj av d' (sx_if (ax_bl g.2.2.2.2.2.2.2 mi mj) [] (ax_us g.2.2.1 mj))))) (ax_xp av (sx_im fj))) none))) d
noncomputable def ax_oInv (vt : Bool) : ax_R := sx_fo (sx_wc w) (fun mj => ax_mtK mj (fun _ fj => ax_tk (sx_ia fj) S [] (fun av rest => sx_if vt
  (ax_p1 av (fun o _ => sx_if (Nat.beq (sx_tg o) 2) (ax_gK ax_gt (sx_pl o) (fun hd _ _ => sx_if (Nat.beq (Nat.mod (Nat.shiftRight (sx_wb w) (Nat.mod hd 256)) 2) 1) (ax_call ih g d mi cd lst pc L M F Y n th av rest mj) none)) none))
  (ax_call ih g d mi cd lst pc L M F Y n th av rest mj))))
noncomputable def ax_oInvX : ax_R := sx_fo (sx_wc w) (fun mj => ax_mtK mj (fun _ fj => ax_tk (sx_ia fj) S [] (fun av rest => ax_p1 av (fun o _ => sx_if (sx_isS o) (ax_call ih g d mi cd lst pc L M F Y n th av rest mj) none))))
noncomputable def ax_oInvW : ax_R := ax_p1 S (fun o _ => sx_if (Nat.beq (sx_tg o) 2) (ax_gK ax_gt (sx_pl o) (fun hd _ _ => sx_if (Nat.beq (Nat.mod (Nat.shiftRight (sx_wb w) (Nat.mod hd 256)) 2) 1)
  (sx_fo (sx_w1 w) (fun w => ax_oInv ih g w d mi cd lst pc L S M F Y n th true)) (sx_fo (sx_w2 w) (fun w => ax_oInv ih g w d mi cd lst pc L S M F Y n th true)))) none)
/-- two arrays have the same stretches -/
noncomputable def ax_se (a : List ax_S) : List ax_S → Bool := List.rec (fun b => List.rec true (fun _ _ _ => false) b) (fun x _ ih b => List.rec false (fun y t _ => sx_and (sx_and (Nat.beq x.1 y.1) (sx_and (Nat.beq x.2.1 y.2.1) (sx_and (Nat.beq x.2.2.1 y.2.2.1) (sx_and (Nat.beq x.2.2.2.1 y.2.2.2.1) (sx_and (Nat.beq x.2.2.2.2.1 y.2.2.2.2.1) (Nat.beq x.2.2.2.2.2 y.2.2.2.2.2)))))) (ih t)) b) a
noncomputable def ax_oCpy : ax_R := ax_p1 S (fun ln r => ax_p1 r (fun dp r => ax_p1 r (fun b r => ax_p1 r (fun sp r => ax_p1 r (fun a r =>
  sx_if (sx_and (sx_and (Nat.ble (List.length r) 40) (sx_and (Nat.beq dp 0) (Nat.beq sp 0))) (sx_and (Nat.beq (sx_tg a) 2) (Nat.beq (sx_tg b) 2)))
    (ax_gK ax_gt (sx_pl a) (fun hda pa la => ax_gK ax_gt (sx_pl b) (fun hdb pb lb => sx_if (sx_and (sx_and (Nat.beq (Nat.mod hda 256) 100) (Nat.beq hda hdb)) (sx_and (sx_and (Nat.beq pa pb) (ax_se la lb)) (sx_and (Nat.beq ln (Nat.mul 8 (Nat.div hda 256))) (sx_and (ax_tb g.1 (ax_bit true (sx_pl b) 0)) (ax_kg g.1 (sx_pl b) 0 4294967295 1)))))
      (sx_fo (sx_pl b) (fun c => ax_on ih d mi cd lst th (Nat.add pc 3) L r (ax_mf Y n c 0 4294967295 M) F Y n)) none))) none)))))
noncomputable def ax_oRet : ax_R := ax_p1 S (fun v r => sx_if (sx_if (Nat.beq (sx_wa w) 0) (Nat.ble (sx_tg v) 1) (sx_if (Nat.beq (sx_wa w) 1) (ax_in Y n v 2147483648 2147483649) (ax_lg v))) (List.rec (some [(1, v, M, F, Y, n, th)]) (fun _ _ _ => none) r) none)
noncomputable def ax_oRetN : ax_R := ax_p1 S (fun v r => sx_if (ax_in Y n v 2147483648 (Nat.add 2147483648 (sx_if (Nat.beq (sx_wa w) 0) 127 65535))) (List.rec (some [(1, v, M, F, Y, n, th)]) (fun _ _ _ => none) r) none)
noncomputable def ax_oVret : ax_R := List.rec (some [(0, 0, M, F, Y, n, th)]) (fun _ _ _ => none) S
noncomputable def ax_oThrow : ax_R := ax_mtK mi (fun _ f => sx_if (sx_and (Nat.beq (sx_ihd f) 0) (sx_and (Nat.ble (List.length S) 40) (Nat.blt th g.2.2.2.2.2.2.1))) (sx_fo (Nat.succ th) (fun th => some [(Nat.add 2 (Nat.mod (sx_wb w) 16), 0, M, F, Y, n, th)])) none)
noncomputable def ax_oDup : ax_R := ax_p1 S (fun v r => sx_if (ax_nl v) (ax_on ih d mi cd lst th (Nat.succ pc) L (v :: v :: r) M F Y n) none)
noncomputable def ax_oDup2 : ax_R := ax_p1 S (fun v r => sx_if (ax_lg v) (ax_on ih d mi cd lst th (Nat.succ pc) L (v :: v :: r) M F Y n) (ax_p1 r (fun u r => sx_if (sx_and (ax_nl v) (ax_nl u)) (ax_on ih d mi cd lst th (Nat.succ pc) L (v :: u :: v :: u :: r) M F Y n) none)))
noncomputable def ax_oPop : ax_R := ax_p1 S (fun v r => sx_if (ax_nl v) (ax_on ih d mi cd lst th (Nat.succ pc) L r M F Y n) none)
noncomputable def ax_oUn : ax_R := ax_p1 S (fun v r => sx_if (Nat.beq (sx_wa w) 2)
  (sx_if (ax_lg v) (ax_any Y n (fun v Y n => ax_on ih d mi cd lst th (Nat.succ pc) L (v :: r) M F Y n)) none)
  (ax_rg none Y n v (fun lo hi => sx_if (Nat.beq (sx_wa w) 0)
    (sx_if (Nat.beq lo 0) (ax_any Y n (fun v Y n => ax_on ih d mi cd lst th (Nat.succ pc) L (v :: r) M F Y n)) (ax_fn Y n (Nat.sub 4294967296 hi) (Nat.sub 4294967296 lo) 0 0 0 (fun v Y n => ax_on ih d mi cd lst th (Nat.succ pc) L (v :: r) M F Y n)))
    (sx_if (Nat.beq lo hi) (sx_fo (sx_j (Int32.ofNat (sx_bs lo)).toInt64) (fun v => ax_on ih d mi cd lst th (Nat.succ pc) L (v :: r) M F Y n)) (ax_on ih d mi cd lst th (Nat.succ pc) L (sx_if (sx_if (Nat.blt 2147483648 lo) true (Nat.blt hi 2147483648)) 31 23 :: r) M F Y n)))))
noncomputable def ax_oLb : ax_R := ax_p1 S (fun y r => ax_p1 r (fun x r => sx_if (sx_and (ax_lg x) (sx_and (ax_lg y) (sx_if (Nat.beq (sx_wa w) 3) (sx_if (Nat.beq y 31) true (sx_and (Nat.beq (sx_tg y) 4) (!Nat.beq (Nat.mod (sx_pl y) 18446744073709551616) 0))) true)))
  (sx_if (Nat.ble (sx_wa w) 3) (ax_on ih d mi cd lst th (Nat.succ pc) L (23 :: r) M F Y n) (ax_fr Y n 2147483647 2147483649 0 0 0 0 (fun v Y n => ax_on ih d mi cd lst th (Nat.succ pc) L (v :: r) M F Y n))) none))
noncomputable def ax_oI2c : ax_R := ax_p1 S (fun v r => ax_nm Y n v (fun v => sx_if (ax_in Y n v 2147483648 2147549183) (ax_on ih d mi cd lst th (Nat.succ pc) L (v :: r) M F Y n) none))
noncomputable def ax_oSget : ax_R := ax_p1 S (fun v r => sx_if (sx_isS v) (sx_if (Nat.beq (sx_wb w) 0) (ax_on ih d mi cd lst th (Nat.add pc 3) L (0 :: r) M F Y n) (sx_fo (Nat.add (Nat.mul 8 (Nat.add (sx_pl v) sx_ns)) 5) (fun v => ax_on ih d mi cd lst th (Nat.add pc 3) L (v :: r) M F Y n))) none)
noncomputable def ax_oBald : ax_R := ax_p1 S (fun i r => ax_p1 r (fun a r => sx_if (sx_isB a) (Option.rec none (fun t => ax_nm Y n i (fun i => sx_if (Nat.beq (sx_tg i) 0) (Option.rec none (fun z => sx_if (Nat.blt z 4294967296) (sx_fo (Nat.mul 8 z) (fun v => ax_on ih d mi cd lst th (Nat.succ pc) L (v :: r) M F Y n)) none) (sx_nth t (sx_pl i))) none)) (sx_nth sx_sb (Nat.sub (sx_pl a) (Nat.add 2 sx_ns)))) none))
noncomputable def ax_oLdcS : ax_R := sx_if (Nat.blt (sx_wa w) sx_ns) (sx_fo (Nat.add (Nat.mul 8 (Nat.add 2 (sx_wa w))) 5) (fun v => ax_on ih d mi cd lst th (Nat.add pc (sx_wb w)) L (v :: S) M F Y n)) none
noncomputable def ax_oGets : ax_R := sx_fo (sx_wc w) (fun v => sx_if (ax_kc v) (ax_on ih d mi cd lst th (Nat.add pc 3) L (v :: S) M F Y n) none)
noncomputable def ax_oLcon : ax_R := Option.rec none (fun t => sx_fo (sx_j t.2.2) (fun v => ax_on ih d mi cd lst th (Nat.add pc 3) L (v :: S) M F Y n)) (sx_nth sx_cg (sx_wa w))
noncomputable def ax_oSw : ax_R := ax_p1 S (fun v r => Option.rec none (fun q => ax_nm Y n v (fun v => sx_if (Nat.beq (sx_tg v) 0) (ax_on ih d mi cd lst th (sx_tg1 q (sx_bs (sx_pl v))) L r M F Y n)
  (sx_if (Nat.beq (sx_tg v) 1) (ax_rg none Y n v (fun lo hi =>
    ax_app (sx_if (Nat.beq q.2.1 0) (some []) (ax_rv Y n v lo (Nat.pred q.2.1) (fun Y => ax_on ih d mi cd lst th q.1 L r M F Y n)))
      (ax_app (ax_rv Y n v (Nat.add q.2.1 (List.length q.2.2.1)) hi (fun Y => ax_on ih d mi cd lst th q.1 L r M F Y n))
        (Nat.rec (some []) (fun i acc => ax_app acc (sx_fo (Nat.add q.2.1 i) (fun z => ax_rv Y n v z z (fun Y => ax_on ih d mi cd lst th (sx_tg1 q z) L r M F Y n)))) (List.length q.2.2.1))))) none))) (sx_nth sx_tsw (sx_wa w)))
noncomputable def ax_body : ax_R := sx_fo (sx_op w) (fun o =>
  sx_if (Nat.beq o 2) (ax_oLoad ih w d mi cd lst pc L S M F Y n th)
  (sx_if (Nat.beq o 1) (ax_oConst ih w d mi cd lst pc L S M F Y n th)
  (sx_if (Nat.beq o 9) (ax_oGet ih g w d mi cd lst pc L S M F Y n th)
  (sx_if (Nat.beq o 7) (ax_oIcmp ih w d mi cd lst pc L S M F Y n th)
  (sx_if (Nat.beq o 6) (ax_oIf ih w d mi cd lst pc L S M F Y n th)
  (sx_if (Nat.beq o 11) (ax_oIald ih g d mi cd lst pc L S M F Y n th)
  (sx_if (Nat.beq o 8) (ax_oGoto ih w d mi cd lst L S M F Y n th)
  (sx_if (Nat.beq o 5) (ax_oIinc ih w d mi cd lst pc L S M F Y n th)
  (sx_if (Nat.beq o 3) (ax_oStore ih w d mi cd lst pc L S M F Y n th)
  (sx_if (Nat.beq o 26) (ax_oRet w S M F Y n th)
  (sx_if (Nat.beq o 21) (ax_oInv ih g w d mi cd lst pc L S M F Y n th true)
  (sx_if (Nat.beq o 4) (ax_oBin ih w d mi cd lst pc L S M F Y n th)
  (sx_if (Nat.beq o 12) (ax_oIast ih g d mi cd lst pc L S M F Y n th)
  (sx_if (Nat.beq o 22) (ax_oInv ih g w d mi cd lst pc L S M F Y n th false)
  (sx_if (Nat.beq o 27) (ax_oVret S M F Y n th)
  (sx_if (Nat.beq o 10) (ax_oPut ih g w d mi cd lst pc L S M F Y n th)
  (sx_if (Nat.beq o 29) (ax_oDup ih d mi cd lst pc L S M F Y n th)
  (sx_if (Nat.beq o 30) (ax_oDup2 ih d mi cd lst pc L S M F Y n th)
  (sx_if (Nat.beq o 31) (ax_oPop ih d mi cd lst pc L S M F Y n th)
  (sx_if (Nat.beq o 13) (ax_oLald ih d mi cd lst pc L S M F Y n th)
  (sx_if (Nat.beq o 14) (ax_oLast ih g d mi cd lst pc L S M F Y n th)
  (sx_if (Nat.beq o 15) (ax_oAald ih d mi cd lst pc L S M F Y n th)
  (sx_if (Nat.beq o 17) (ax_oAlen ih g d mi cd lst pc L S M F Y n th)
  (sx_if (Nat.beq o 25) (ax_oCpy ih g d mi cd lst pc L S M F Y n th)
  (sx_if (Nat.beq o 28) (ax_oThrow g w mi S M F Y n th)
  (sx_if (Nat.beq o 32) (ax_oUn ih w d mi cd lst pc L S M F Y n th)
  (sx_if (Nat.beq o 35) (ax_oLb ih w d mi cd lst pc L S M F Y n th)
  (sx_if (Nat.beq o 37) (ax_oSw ih w d mi cd lst L S M F Y n th)
  (sx_if (Nat.beq o 39) (ax_oInvX ih g w d mi cd lst pc L S M F Y n th)
  (sx_if (Nat.beq o 38) (ax_oSget ih w d mi cd lst pc L S M F Y n th)
  (sx_if (Nat.beq o 33) (ax_oLdcS ih w d mi cd lst pc L S M F Y n th)
  (sx_if (Nat.beq o 34) (ax_oGets ih w d mi cd lst pc L S M F Y n th)
  (sx_if (Nat.beq o 36) (ax_oBald ih d mi cd lst pc L S M F Y n th)
  (sx_if (Nat.beq o 42) (ax_oI2c ih d mi cd lst pc L S M F Y n th)
  (sx_if (Nat.beq o 43) (ax_oRetN w S M F Y n th)
  (sx_if (Nat.beq o 40) (ax_oInvW ih g w d mi cd lst pc L S M F Y n th)
  (sx_if (Nat.beq o 41) (ax_oLcon ih w d mi cd lst pc L S M F Y n th) none)))))))))))))))))))))))))))))))))))))
end AXStep
