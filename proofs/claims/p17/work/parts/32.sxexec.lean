/-! sx: the executor. A value v: v % 8 = 0 the int v / 8, 1 the int of symbol v / 8, 2 the cell v / 8, 3 null, 4 the long v / 8, 5 the script, 7 none. Of a symbol: least, greatest (both with 2^31 more), 1 + the symbol that it is so much more than, how much. -/
abbrev sx_Y : Type := List (Nat × Nat × Nat × Nat)
abbrev sx_O : Type := Nat × Nat × sx_H × Nat × sx_Y × Nat × Nat
abbrev sx_R : Type := Option (List sx_O)
/-- a loop's head that stands open: pc, locals, stack, cells, how many, symbols, first symbol of its own, local of the rank, made so far -/
abbrev sx_I : Type := Nat × List Nat × List Nat × sx_H × Nat × sx_Y × Nat × Nat × List (Nat × Nat × Nat) × Nat × Nat
abbrev sx_ih : Type := Nat → Nat → Nat → List sx_I → Bool → Nat → List Nat → List Nat → sx_H → Nat → sx_Y → Nat → Nat → sx_R
noncomputable def sx_app (a b : sx_R) : sx_R := Option.rec none (fun x => Option.rec none (fun y => some (x ++ y)) b) a
def sx_bs (x : Nat) : Nat := Nat.mod (Nat.add x 2147483648) 4294967296
def sx_tg (v : Nat) : Nat := Nat.mod v 8
def sx_pl (v : Nat) : Nat := Nat.div v 8
/-- an int that is known gets to be a number -/
noncomputable def sx_nm (sy : sx_Y) (v : Nat) (K : Nat → sx_R) : sx_R :=
  sx_if (Nat.beq (sx_tg v) 1) (Option.rec none (fun e => sx_if (Nat.beq e.1 e.2.1) (sx_fo (Nat.mul 8 (sx_bs e.1)) K) (K v)) (sx_nth sy (sx_pl v))) (K v)
noncomputable def sx_rf (sy : sx_Y) (k lo hi : Nat) (K : sx_Y → sx_R) : sx_R :=
  sx_if (Nat.ble lo hi) (Option.rec none (fun e => sx_fo lo (fun lo => sx_fo hi (fun hi => sx_stK (lo, hi, e.2.2.1, e.2.2.2) sy k K))) (sx_nth sy k)) (some [])
noncomputable def sx_mn (a b : Nat) : Nat := sx_if (Nat.ble a b) a b
noncomputable def sx_mx (a b : Nat) : Nat := sx_if (Nat.ble a b) b a
/-- a symbol of few values: one after the other -/
noncomputable def sx_en (sy : sx_Y) (k lo hi : Nat) (K : sx_Y → sx_R) : sx_R :=
  sx_if (Nat.ble hi (Nat.add lo 64)) (Nat.rec (some []) (fun i ih => sx_app ih (sx_fo (Nat.add lo i) (fun x => sx_rf sy k x x K))) (Nat.sub (Nat.succ hi) lo)) none
/-- 0 eq, 1 ne, 2 lt, 3 ge, 4 gt, 5 le, of numbers -/
noncomputable def sx_cb (c a b : Nat) : Bool :=
  sx_if (Nat.beq c 0) (Nat.beq a b) (sx_if (Nat.beq c 1) (!Nat.beq a b) (sx_if (Nat.beq c 2) (Nat.blt a b) (sx_if (Nat.beq c 3) (Nat.ble b a) (sx_if (Nat.beq c 4) (Nat.blt b a) (Nat.ble a b)))))
/-- the same of a and b the other way round -/
noncomputable def sx_cw (c : Nat) : Nat := sx_if (Nat.beq c 2) 4 (sx_if (Nat.beq c 3) 5 (sx_if (Nat.beq c 4) 2 (sx_if (Nat.beq c 5) 3 c)))
/-- a symbol k in lo to hi against the number b -/
noncomputable def sx_cs (c : Nat) (sy : sx_Y) (k lo hi b : Nat) (K : Bool → sx_Y → sx_R) : sx_R :=
  sx_if (Nat.ble c 1)
    (sx_app (sx_rf sy k (sx_mx lo b) (sx_mn hi b) (K (Nat.beq c 0))) (sx_app (sx_if (Nat.beq b 0) (some []) (sx_rf sy k lo (sx_mn hi (Nat.pred b)) (K (Nat.beq c 1)))) (sx_rf sy k (sx_mx lo (Nat.succ b)) hi (K (Nat.beq c 1)))))
    (sx_if (Nat.ble c 3)
      (sx_app (sx_if (Nat.beq b 0) (some []) (sx_rf sy k lo (sx_mn hi (Nat.pred b)) (K (Nat.beq c 2)))) (sx_rf sy k (sx_mx lo b) hi (K (Nat.beq c 3))))
      (sx_app (sx_rf sy k lo (sx_mn hi b) (K (Nat.beq c 5))) (sx_rf sy k (sx_mx lo (Nat.succ b)) hi (K (Nat.beq c 4)))))
/-- two symbols, c lt or ge -/
noncomputable def sx_cy (t f : Bool) (sy : sx_Y) (i li hi j lj hj : Nat) (K : Bool → sx_Y → sx_R) : sx_R :=
  sx_app (sx_if (Nat.beq hj 0) (some []) (sx_rf sy i li (sx_mn hi (Nat.pred hj)) (fun sy => sx_rf sy j (sx_mx lj (Nat.succ li)) hj (K t))))
    (sx_rf sy i (sx_mx li lj) hi (fun sy => sx_rf sy j lj (sx_mn hj hi) (K f)))
noncomputable def sx_cmp (c x y : Nat) (sy : sx_Y) (K : Bool → sx_Y → sx_R) : sx_R :=
  sx_nm sy x (fun x => sx_nm sy y (fun y =>
    sx_if (Nat.beq (sx_tg x) 0)
      (sx_if (Nat.beq (sx_tg y) 0) (K (sx_cb c (sx_bs (sx_pl x)) (sx_bs (sx_pl y))) sy)
        (sx_if (Nat.beq (sx_tg y) 1) (Option.rec none (fun e => sx_fo (sx_bs (sx_pl x)) (fun b => sx_cs (sx_cw c) sy (sx_pl y) e.1 e.2.1 b K)) (sx_nth sy (sx_pl y))) none))
      (sx_if (Nat.beq (sx_tg x) 1)
        (Option.rec none (fun e => sx_if (Nat.beq (sx_tg y) 0) (sx_fo (sx_bs (sx_pl y)) (fun b => sx_cs c sy (sx_pl x) e.1 e.2.1 b K))
          (sx_if (Nat.beq (sx_tg y) 1)
            (Option.rec none (fun e2 =>
              sx_if (Nat.ble c 1) (sx_en sy (sx_pl x) e.1 e.2.1 (fun sy => Option.rec none (fun e => Option.rec none (fun e2 => sx_cs (sx_cw c) sy (sx_pl y) e2.1 e2.2.1 e.1 K) (sx_nth sy (sx_pl y))) (sx_nth sy (sx_pl x))))
                (sx_if (Nat.ble c 3) (sx_cy (Nat.beq c 2) (Nat.beq c 3) sy (sx_pl x) e.1 e.2.1 (sx_pl y) e2.1 e2.2.1 K)
                  (sx_cy (Nat.beq c 4) (Nat.beq c 5) sy (sx_pl y) e2.1 e2.2.1 (sx_pl x) e.1 e.2.1 K))) (sx_nth sy (sx_pl y))) none)) (sx_nth sy (sx_pl x))) none)))
/-! numbers -/
def sx_i (z : Int32) : Nat := Nat.mul 8 z.toBitVec.toNat
def sx_j (z : Int64) : Nat := Nat.add (Nat.mul 8 z.toBitVec.toNat) 4
noncomputable def sx_bf (o : Nat) (x y : Int32) : Int32 :=
  sx_if (Nat.beq o 1) (x - y) (sx_if (Nat.beq o 2) (x * y) (sx_if (Nat.beq o 3) (x &&& y) (sx_if (Nat.beq o 4) (x ||| y) (sx_if (Nat.beq o 5) (x ^^^ y) (sx_if (Nat.beq o 6) (x <<< (y &&& 31)) (sx_if (Nat.beq o 7) (x >>> (y &&& 31))
    (sx_if (Nat.beq o 8) (x.toUInt32 >>> (y.toUInt32 &&& Int32.toUInt32 31)).toInt32 (sx_if (Nat.beq o 9) (x / y) (sx_if (Nat.beq o 10) (x - x / y * y) (x + y))))))))))
/-- two known ints -/
noncomputable def sx_bk (o x y : Nat) (K : Nat → sx_R) : sx_R :=
  sx_if (Nat.beq o 0) (sx_fo (Nat.mul 8 (Nat.mod (Nat.add x y) 4294967296)) K)
    (sx_if (Nat.ble 9 o) (sx_if (Nat.beq (Nat.mod y 4294967296) 0) none (sx_fo (sx_i (sx_bf o (Int32.ofNat x) (Int32.ofNat y))) K)) (sx_fo (sx_i (sx_bf o (Int32.ofNat x) (Int32.ofNat y))) K))
noncomputable def sx_fr (sy : sx_Y) (lo hi pr off : Nat) (K : Nat → sx_Y → sx_R) : sx_R := sx_fo lo (fun lo => sx_fo hi (fun hi => sx_fo (Nat.add (Nat.mul 8 (List.length sy)) 1) (fun v => K v (sy ++ [(lo, hi, pr, off)]))))
/-- some symbol: few values one after the other, else any -/
noncomputable def sx_bm (o x y : Nat) (sy : sx_Y) (K : Nat → sx_Y → sx_R) : sx_R :=
  sx_if (Nat.beq (sx_tg x) 1)
    (Option.rec none (fun e => sx_if (Nat.ble e.2.1 (Nat.add e.1 64))
      (sx_en sy (sx_pl x) e.1 e.2.1 (fun sy => sx_nm sy x (fun x => sx_nm sy y (fun y => sx_if (Nat.beq (sx_tg x) 0) (sx_if (Nat.beq (sx_tg y) 0) (sx_bk o (sx_pl x) (sx_pl y) (fun v => K v sy))
        (sx_if (Nat.beq (sx_tg y) 1) (sx_if (Nat.ble 9 o) none (sx_fr sy 0 4294967295 0 0 K)) none)) none))))
      (sx_if (Nat.ble (sx_tg y) 1) (sx_if (Nat.ble 9 o) none (sx_fr sy 0 4294967295 0 0 K)) none)) (sx_nth sy (sx_pl x)))
    (sx_if (Nat.beq (sx_tg x) 0) (sx_if (Nat.beq (sx_tg y) 1)
      (Option.rec none (fun e => sx_if (Nat.ble e.2.1 (Nat.add e.1 64))
        (sx_en sy (sx_pl y) e.1 e.2.1 (fun sy => sx_nm sy y (fun y => sx_if (Nat.beq (sx_tg y) 0) (sx_bk o (sx_pl x) (sx_pl y) (fun v => K v sy)) none)))
        (sx_if (Nat.ble 9 o) none (sx_fr sy 0 4294967295 0 0 K))) (sx_nth sy (sx_pl y))) none) none)
noncomputable def sx_bin (o x y : Nat) (sy : sx_Y) (K : Nat → sx_Y → sx_R) : sx_R :=
  sx_nm sy x (fun x => sx_nm sy y (fun y =>
    sx_if (Nat.beq (sx_tg x) 0)
      (sx_if (Nat.beq (sx_tg y) 0) (sx_bk o (sx_pl x) (sx_pl y) (fun v => K v sy))
        (sx_if (Nat.beq o 3) (sx_if (Nat.blt (sx_pl x) 2147483648) (sx_if (Nat.beq (sx_tg y) 1) (sx_fr sy 2147483648 (Nat.add 2147483648 (sx_pl x)) 0 0 K) none) (sx_bm o x y sy K)) (sx_bm o x y sy K)))
      (sx_if (Nat.beq (sx_tg y) 0)
        (sx_if (Nat.beq (sx_tg x) 1)
          (sx_if (Nat.beq o 3) (sx_if (Nat.blt (sx_pl y) 2147483648) (sx_fr sy 2147483648 (Nat.add 2147483648 (sx_pl y)) 0 0 K) (sx_bm o x y sy K))
            (sx_if (Nat.beq o 0) (Option.rec none (fun e => sx_if (Nat.blt (Nat.add e.2.1 (sx_pl y)) 4294967296) (sx_fr sy (Nat.add e.1 (sx_pl y)) (Nat.add e.2.1 (sx_pl y)) (Nat.succ (sx_pl x)) (sx_pl y) K) (sx_bm o x y sy K)) (sx_nth sy (sx_pl x))) (sx_bm o x y sy K))) none)
        (sx_bm o x y sy K))))
/-! the tables of the program stand behind: words of 80 bits by place; of a method its code, and how many locals, arguments, cells and places it makes, its handlers -/
def sx_ft (cd pc : Nat) : Nat := Nat.mod (Nat.shiftRight cd (Nat.mul 80 pc)) 1208925819614629174706176
def sx_op (w : Nat) : Nat := Nat.mod w 64
def sx_wh (w : Nat) : Nat := Nat.mod (Nat.div w 64) 2
def sx_wa (w : Nat) : Nat := Nat.mod (Nat.div w 128) 65536
def sx_wb (w : Nat) : Nat := Nat.mod (Nat.div w 8388608) 65536
def sx_wc (w : Nat) : Nat := Nat.div w 549755813888
noncomputable def sx_tk (n : Nat) : List Nat → List Nat → (List Nat → List Nat → sx_R) → sx_R := Nat.rec (fun S acc K => K acc S) (fun _ ih S acc K => List.rec none (fun v t _ => ih t (v :: acc) K) S) n
/-- arguments as locals, n in all -/
noncomputable def sx_pd (n : Nat) : List Nat := Nat.rec [] (fun _ ih => 7 :: ih) n
noncomputable def sx_xp (av : List Nat) : Nat → Option (List Nat) := List.rec (fun n => some (sx_pd n)) (fun v _ ih n => Nat.rec none (fun n' _ => sx_if (Nat.beq (sx_tg v) 4) (Nat.rec none (fun n2 _ => Option.map (fun t => v :: 7 :: t) (ih n2)) n') (Option.map (fun t => v :: t) (ih n'))) n) av
