/-! ax: sums, products, bits; places of cells -/
noncomputable def ax_bk (o x y : Nat) (K : Nat → ax_R) : ax_R :=
  sx_if (Nat.beq o 0) (sx_fo (Nat.mul 8 (Nat.mod (Nat.add x y) 4294967296)) K)
    (sx_if (Nat.ble 9 o) (sx_if (Nat.beq (Nat.mod y 4294967296) 0) none (sx_fo (sx_i (sx_bf o (Int32.ofNat x) (Int32.ofNat y))) K)) (sx_fo (sx_i (sx_bf o (Int32.ofNat x) (Int32.ofNat y))) K))
/-- a value one after the other, m more than the least at most -/
noncomputable def ax_en (Y : ax_Y) (n a m : Nat) (K : Nat → ax_Y → ax_R) : ax_R := ax_rg none Y n a (fun lo hi => sx_if (Nat.ble hi (Nat.add lo m)) (Nat.rec (some []) (fun i ih => ax_app ih (sx_fo (Nat.add lo i) (fun z => ax_rv Y n a z z (fun Y => K z Y)))) (Nat.sub (Nat.succ hi) lo)) none)
noncomputable def ax_pw (m : Nat) : Nat := sx_if (Nat.beq m 0) 0 (Nat.pred (Nat.pow 2 (Nat.succ (Nat.log2 m))))
/-- how the symbol x was made: op, of what, behind K; a0 else -/
noncomputable def ax_mk {α : Type} (df : α) (Y : ax_Y) (n x : Nat) (K : Nat → Nat → Nat → α) : α := sx_if (sx_and (Nat.beq (sx_tg x) 1) (Nat.beq (ax_o x) 8589934592)) (Option.rec df (fun e => K e.2.2.2.1 e.2.2.2.2.1 e.2.2.2.2.2) (ax_at Y n (ax_k x))) df
/-- b has no bits but a's -/
noncomputable def ax_sub (Y : ax_Y) (a b : Nat) : Bool := List.rec false (fun e _ ih => sx_if (sx_and (Nat.beq e.2.2.2.1 3) (sx_and (Nat.beq e.2.2.2.2.1 b) (sx_and (Nat.beq e.2.2.2.2.2 a) (sx_and (Nat.beq e.1 2147483648) (Nat.beq e.2.1 2147483648))))) true ih) Y
noncomputable def ax_bs2 (o x y xl xh yl yh : Nat) (F : ax_F) (Y : ax_Y) (n : Nat) (K : Nat → ax_Y → Nat → ax_R) : ax_R :=
  sx_if (Nat.beq o 0)
    (sx_if (sx_and (Nat.ble 2147483648 (Nat.add xl yl)) (Nat.blt (Nat.add xh yh) 6442450944))
      (sx_if (Nat.beq (sx_tg y) 0) (sx_fo (Nat.sub (Nat.add x (Nat.mul 524288 yl)) 1125899906842624) (fun v => K v Y n))
        (sx_if (Nat.beq (sx_tg x) 0) (sx_fo (Nat.sub (Nat.add y (Nat.mul 524288 xl)) 1125899906842624) (fun v => K v Y n))
          (ax_fn Y n (Nat.sub (Nat.add xl yl) 2147483648) (Nat.sub (Nat.add xh yh) 2147483648) 1 x y K))) (ax_any Y n K))
  (sx_if (Nat.beq o 1)
    (sx_if (sx_and (Nat.ble yh (Nat.add xl 2147483648)) (Nat.blt (Nat.add xh 2147483648) (Nat.add yl 4294967296)))
      (sx_if (Nat.beq (sx_tg y) 0) (sx_fo (Nat.sub (Nat.add x 1125899906842624) (Nat.mul 524288 yl)) (fun v => K v Y n))
        (sx_if (sx_and (Nat.beq (sx_tg x) 1) (Nat.beq (ax_k x) (ax_k y))) (sx_fo (Nat.mul 8 (sx_bs (Nat.sub (Nat.add (ax_o x) 2147483648) (ax_o y)))) (fun v => K v Y n))
          (sx_fo (Nat.sub (Nat.add xl 2147483648) yh) (fun lo => sx_fo (sx_if (sx_if (ax_le F Y n y 0 40 x) true (ax_mk false Y n x (fun ox ax _ => ax_mk false Y n y (fun oy ay _ => sx_and (Nat.beq ox 4) (sx_and (Nat.beq oy 4) (ax_sub Y ax ay)))))) (sx_mx lo 2147483648) lo)
            (fun lo => ax_fn Y n lo (Nat.sub (Nat.add xh 2147483648) yl) 2 x y K))))) (ax_any Y n K))
  (sx_if (Nat.beq o 2)
    (sx_if (sx_and (sx_and (Nat.ble 2147483648 xl) (Nat.ble 2147483648 yl)) (Nat.blt (Nat.mul (Nat.sub xh 2147483648) (Nat.sub yh 2147483648)) 2147483648))
      (ax_fn Y n (Nat.add 2147483648 (Nat.mul (Nat.sub xl 2147483648) (Nat.sub yl 2147483648))) (Nat.add 2147483648 (Nat.mul (Nat.sub xh 2147483648) (Nat.sub yh 2147483648))) 0 0 0 K) (ax_any Y n K))
  (sx_if (Nat.beq o 3)
    (sx_if (Nat.ble 2147483648 xl) (sx_if (Nat.ble 2147483648 yl) (ax_fn Y n 2147483648 (sx_mn xh yh) 0 0 0 K)
        (ax_mk (ax_fn Y n 2147483648 xh 0 0 0 K) Y n y (fun oy ay _ => sx_if (Nat.beq oy 5) (ax_fn Y n 2147483648 xh 3 x ay K) (ax_fn Y n 2147483648 xh 0 0 0 K))))
      (sx_if (Nat.ble 2147483648 yl) (ax_fn Y n 2147483648 yh 0 0 0 K) (ax_any Y n K)))
  (sx_if (sx_and (Nat.beq o 5) (Nat.beq y 34359738360)) (ax_fn Y n (Nat.sub 4294967295 xh) (Nat.sub 4294967295 xl) 5 x 0 K)
  (sx_if (sx_if (Nat.beq o 4) true (Nat.beq o 5))
    (sx_if (sx_and (Nat.ble 2147483648 xl) (Nat.ble 2147483648 yl)) (sx_fo (Nat.add 2147483648 (ax_pw (sx_mx (Nat.sub xh 2147483648) (Nat.sub yh 2147483648)))) (fun hi => ax_fn Y n 2147483648 hi 0 0 0 K)) (ax_any Y n K))
  (sx_if (Nat.beq o 6)
    (sx_if (sx_and (sx_and (Nat.ble 2147483648 xl) (Nat.ble 2147483648 yl)) (sx_and (Nat.ble yh 2147483678) (Nat.blt (Nat.shiftLeft (Nat.sub xh 2147483648) (Nat.sub yh 2147483648)) 2147483648)))
      (ax_fn Y n (Nat.add 2147483648 (Nat.shiftLeft (Nat.sub xl 2147483648) (Nat.sub yl 2147483648))) (Nat.add 2147483648 (Nat.shiftLeft (Nat.sub xh 2147483648) (Nat.sub yh 2147483648))) 0 0 0 K) (ax_any Y n K))
  (sx_if (sx_if (Nat.beq o 7) true (Nat.beq o 8))
    (sx_if (Nat.ble 2147483648 xl)
      (sx_if (sx_and (Nat.ble 2147483648 yl) (Nat.ble yh 2147483679)) (ax_fn Y n (Nat.add 2147483648 (Nat.shiftRight (Nat.sub xl 2147483648) (Nat.sub yh 2147483648))) (Nat.add 2147483648 (Nat.shiftRight (Nat.sub xh 2147483648) (Nat.sub yl 2147483648))) 0 0 0 K)
        (ax_fn Y n 2147483648 xh 0 0 0 K))
      (sx_if (sx_and (Nat.beq o 8) (sx_and (Nat.beq yl yh) (sx_and (Nat.blt 2147483648 yl) (Nat.ble yl 2147483679)))) (ax_fn Y n 2147483648 (Nat.add 2147483648 (Nat.pred (Nat.pow 2 (Nat.sub 2147483680 yl)))) 0 0 0 K) (ax_any Y n K)))
  (sx_if (Nat.blt 2147483648 yl)
    (sx_if (Nat.beq o 9)
      (sx_if (Nat.ble 2147483648 xl) (ax_fn Y n (Nat.add 2147483648 (Nat.div (Nat.sub xl 2147483648) (Nat.sub yh 2147483648))) (Nat.add 2147483648 (Nat.div (Nat.sub xh 2147483648) (Nat.sub yl 2147483648))) 0 0 0 K) (ax_any Y n K))
      (ax_fn Y n (sx_if (Nat.ble 2147483648 xl) 2147483648 (sx_mx xl (Nat.sub 4294967297 yh))) (sx_if (Nat.ble 2147483648 xh) (sx_mn xh (Nat.pred yh)) 2147483648) 0 0 0 K))
    (sx_if (Nat.blt yh 2147483648) (ax_any Y n K) none)))))))))
noncomputable def ax_bin (o x y : Nat) (F : ax_F) (Y : ax_Y) (n : Nat) (K : Nat → ax_Y → Nat → ax_R) : ax_R :=
  ax_nm Y n x (fun x => ax_nm Y n y (fun y => sx_if (sx_and (Nat.beq (sx_tg x) 0) (Nat.beq (sx_tg y) 0)) (ax_bk o (sx_pl x) (sx_pl y) (fun v => K v Y n))
    (sx_if (sx_and (Nat.beq o 2) (sx_and (sx_if (Nat.beq x 56) true (Nat.beq x 2912)) (Nat.beq (sx_tg y) 1))) (ax_en Y n y 12 (fun z Y => ax_bk o (sx_pl x) (sx_bs z) (fun v => K v Y n)))
      (ax_rg none Y n x (fun xl xh => ax_rg none Y n y (fun yl yh => ax_bs2 o x y xl xh yl yh F Y n K))))))
/-! places: of a cell its head (as in the concrete one), its period, and stretches: up to which place, kind (0 an int of a to b, 1 the reference a, 2 the reference a or b, 3 a long, 4 an int of a to b or of c to d), a, b, c, d -/
abbrev ax_S : Type := Nat × Nat × Nat × Nat × Nat × Nat
abbrev ax_C0 : Type := Nat × Nat × List ax_S
noncomputable def ax_gK {β : Type} (t : sx_Q (sx_Q (sx_Q (sx_Q ax_C0)))) (k : Nat) (f : Nat → Nat → List ax_S → β) : β := sx_g4 t (Nat.mod (Nat.div k 64) 4) (fun h3 => sx_g4 h3 (Nat.mod (Nat.div k 16) 4) (fun h2 => sx_g4 h2 (Nat.mod (Nat.div k 4) 4) (fun h1 => sx_g4 h1 (Nat.mod k 4) (fun c => Prod.rec (fun a r => Prod.rec (fun b l => f a b l) r) c))))
/-- the stretch of place lo, if it reaches to hi -/
noncomputable def ax_sg (l : List ax_S) (lo hi : Nat) : Option ax_S := List.rec none (fun s _ ih => sx_if (Nat.blt lo s.1) (sx_if (Nat.blt hi s.1) (some s) none) ih) l
/-- the least and the greatest of ints at lo to hi -/
noncomputable def ax_sj (l : List ax_S) (lo hi : Nat) : Nat → Nat → Nat → Option (Nat × Nat) := List.rec (fun _ a b => some (a, b)) (fun s _ ih fr a b => sx_if (Nat.ble s.1 lo) (ih s.1 a b) (sx_if (Nat.ble fr hi) (sx_if (Nat.beq s.2.1 0) (sx_fo (sx_mn a s.2.2.1) (fun a => sx_fo (sx_mx b s.2.2.2.1) (fun b => ih s.1 a b))) none) (some (a, b)))) l
/-- the greatest of the leasts, the least of the greatests -/
noncomputable def ax_sm (l : List ax_S) (lo hi : Nat) : Nat → Nat → Nat → Option (Nat × Nat) := List.rec (fun _ a b => some (a, b)) (fun s _ ih fr a b => sx_if (Nat.ble s.1 lo) (ih s.1 a b) (sx_if (Nat.ble fr hi) (sx_if (Nat.beq s.2.1 0) (sx_fo (sx_mx a s.2.2.1) (fun a => sx_fo (sx_mn b s.2.2.2.1) (fun b => ih s.1 a b))) none) (some (a, b)))) l
noncomputable def ax_mg (M : ax_M) (c k : Nat) : Option Nat := List.rec none (fun m _ ih => sx_if (sx_and (Nat.beq m.1 c) (Nat.beq m.2.1 k)) (some m.2.2) ih) M
/-- without what may be at lo to hi of the cell c -/
noncomputable def ax_mf (Y : ax_Y) (n c lo hi : Nat) (M : ax_M) : ax_M := List.rec [] (fun m _ ih => sx_if (Nat.beq m.1 c) (ax_rg ih Y n m.2.1 (fun kl kh => sx_if (sx_if (Nat.blt kh lo) true (Nat.blt hi kl)) (m :: ih) ih)) (m :: ih)) M
def ax_bit (arr : Bool) (c j : Nat) : Nat := Nat.add (Nat.mul 32 c) (cond arr 0 j)
noncomputable def ax_tb (md i : Nat) : Bool := Nat.beq (Nat.mod (Nat.shiftRight md i) 2) 1
