/-! ax: an abstract executor over the concrete one. A value: as the concrete one's, but v % 8 = 1 the int of symbol v / 8 % 65536 and v / 524288 more, less 2^33; 7 any, 15 what 15 is, 23 some long, 31 some long that isn't 0. A symbol: least, greatest (both with 2^31 more), 1 + a value that it is at least, how it was made (1 a sum, 2 a difference, 3 the first without the second's bits, 4 how many bits, 5 all bits turned, 6 read from a place of a cell), of which values. The newest symbol stands first. -/
abbrev ax_E : Type := Nat × Nat × Nat × Nat × Nat × Nat
abbrev ax_Y : Type := List ax_E
/-- known places: cell, place (a value), what is there; facts: a symbol and so much (less 2^35) is at most another symbol -/
abbrev ax_M : Type := List (Nat × Nat × Nat)
abbrev ax_F : Type := List (Nat × Nat × Nat)
/-- an end: kind and value, as the concrete one's; memo, facts, symbols, how many, throws -/
abbrev ax_O : Type := Nat × Nat × ax_M × ax_F × ax_Y × Nat × Nat
abbrev ax_R : Type := Option (List ax_O)
noncomputable def ax_app (a b : ax_R) : ax_R := Option.rec none (fun x => Option.rec none (fun y => some (x ++ y)) b) a
def ax_k (a : Nat) : Nat := Nat.mod (Nat.div a 8) 65536
def ax_o (a : Nat) : Nat := Nat.div a 524288
def ax_sym (k : Nat) : Nat := Nat.add (Nat.mul 8 (Nat.add k 562949953421312)) 1
noncomputable def ax_at (Y : ax_Y) (n k : Nat) : Option ax_E := sx_nth Y (Nat.sub (Nat.pred n) k)
/-- bounds of an int -/
noncomputable def ax_rg {α : Type} (df : α) (Y : ax_Y) (n a : Nat) (K : Nat → Nat → α) : α :=
  sx_if (Nat.beq (sx_tg a) 0) (sx_fo (sx_bs (sx_pl a)) (fun z => K z z))
    (sx_if (Nat.beq (sx_tg a) 1) (Option.rec df (fun e => sx_fo (Nat.sub (Nat.add e.1 (ax_o a)) 8589934592) (fun lo => sx_fo (Nat.sub (Nat.add e.2.1 (ax_o a)) 8589934592) (fun hi => K lo hi))) (ax_at Y n (ax_k a))) df)
/-- an int that is known gets to be a number -/
noncomputable def ax_nm {α : Type} (Y : ax_Y) (n a : Nat) (K : Nat → α) : α :=
  sx_if (Nat.beq (sx_tg a) 1) (Option.rec (K a) (fun e => sx_if (Nat.beq e.1 e.2.1) (sx_fo (Nat.mul 8 (sx_bs (Nat.sub (Nat.add e.1 (ax_o a)) 8589934592))) K) (K a)) (ax_at Y n (ax_k a))) (K a)
/-- symbol k within lo to hi -/
noncomputable def ax_rf (Y : ax_Y) (n k lo hi : Nat) (K : ax_Y → ax_R) : ax_R :=
  Option.rec none (fun e => sx_fo (sx_mx e.1 lo) (fun lo => sx_fo (sx_mn e.2.1 hi) (fun hi => sx_if (Nat.ble lo hi) (sx_stK (lo, hi, e.2.2) Y (Nat.sub (Nat.pred n) k) K) (some [])))) (ax_at Y n k)
/-- a value within lo to hi, nothing else -/
noncomputable def ax_r1 (Y : ax_Y) (n a lo hi : Nat) (K : ax_Y → ax_R) : ax_R :=
  sx_if (Nat.beq (sx_tg a) 0) (sx_fo (sx_bs (sx_pl a)) (fun z => sx_if (sx_and (Nat.ble lo z) (Nat.ble z hi)) (K Y) (some [])))
    (sx_if (Nat.beq (sx_tg a) 1) (ax_rf Y n (ax_k a) (Nat.sub (Nat.add lo 8589934592) (ax_o a)) (Nat.sub (Nat.add hi 8589934592) (ax_o a)) K) none)
/-- a value within lo to hi; of a difference, of a sum what that says of its parts -/
noncomputable def ax_rv (Y : ax_Y) (n a lo hi : Nat) (K : ax_Y → ax_R) : ax_R :=
  ax_r1 Y n a lo hi (fun Y => sx_if (Nat.beq (sx_tg a) 1)
    (Option.rec none (fun e => sx_if (Nat.beq e.2.2.2.1 2)
      (ax_rg none Y n e.2.2.2.2.1 (fun bl bh => ax_r1 Y n e.2.2.2.2.2 (Nat.sub (Nat.add bl 2147483648) e.2.1) (Nat.sub (Nat.add bh 2147483648) e.1) (fun Y => ax_rg none Y n e.2.2.2.2.2 (fun fl fh => ax_r1 Y n e.2.2.2.2.1 (Nat.sub (Nat.add fl e.1) 2147483648) (Nat.sub (Nat.add fh e.2.1) 2147483648) K))))
      (sx_if (Nat.beq e.2.2.2.1 1)
        (ax_rg none Y n e.2.2.2.2.1 (fun bl bh => ax_r1 Y n e.2.2.2.2.2 (Nat.sub (Nat.add e.1 2147483648) bh) (Nat.sub (Nat.add e.2.1 2147483648) bl) (fun Y => ax_rg none Y n e.2.2.2.2.2 (fun fl fh => ax_r1 Y n e.2.2.2.2.1 (Nat.sub (Nat.add e.1 2147483648) fh) (Nat.sub (Nat.add e.2.1 2147483648) fl) K))))
        (K Y))) (ax_at Y n (ax_k a))) (K Y))
/-- is x and c more at most y, by their bounds, one symbol, a fact, a difference -/
noncomputable def ax_fk (F : ax_F) (kx ky : Nat) (t : Nat → Bool) : Bool := List.rec false (fun f _ ih => sx_if (sx_and (Nat.beq f.1 kx) (sx_and (Nat.beq f.2.1 ky) (t f.2.2))) true ih) F
noncomputable def ax_dk (Y : ax_Y) (kx ox ky oy c : Nat) : Bool := List.rec false (fun e _ ih => sx_if (sx_and (Nat.beq e.2.2.2.1 2) (sx_and (Nat.beq (sx_tg e.2.2.2.2.1) 1) (Nat.beq (sx_tg e.2.2.2.2.2) 1)))
  (sx_if (sx_and (Nat.beq (ax_k e.2.2.2.2.1) ky) (sx_and (Nat.beq (ax_k e.2.2.2.2.2) kx) (Nat.ble (Nat.add (Nat.add c 2147483648) (Nat.add (ax_o e.2.2.2.2.1) ox)) (Nat.add e.1 (Nat.add oy (ax_o e.2.2.2.2.2)))))) true
    (sx_if (sx_and (Nat.beq (ax_k e.2.2.2.2.1) kx) (sx_and (Nat.beq (ax_k e.2.2.2.2.2) ky) (Nat.ble (Nat.add (Nat.add c e.2.1) (Nat.add (ax_o e.2.2.2.2.2) ox)) (Nat.add 2147483648 (Nat.add oy (ax_o e.2.2.2.2.1)))))) true ih)) ih) Y
noncomputable def ax_l0 (F : ax_F) (Y : ax_Y) (n x y c : Nat) : Bool :=
  sx_if (ax_rg false Y n x (fun _ xh => ax_rg false Y n y (fun yl _ => Nat.ble (Nat.add xh c) yl))) true
    (sx_if (sx_and (Nat.beq (sx_tg x) 1) (Nat.beq (sx_tg y) 1))
      (sx_if (Nat.beq (ax_k x) (ax_k y)) (Nat.ble (Nat.add (ax_o x) c) (ax_o y))
        (sx_if (ax_fk F (ax_k x) (ax_k y) (fun f => Nat.ble (Nat.add (Nat.add (ax_o x) c) 34359738368) (Nat.add f (ax_o y)))) true (ax_dk Y (ax_k x) (ax_o x) (ax_k y) (ax_o y) c))) false)
/-- a difference whose first is symbol ky -/
noncomputable def ax_dn (Y : ax_Y) (ky : Nat) : Option ax_E := List.rec none (fun e _ ih => sx_if (sx_and (Nat.beq e.2.2.2.1 2) (sx_and (Nat.beq (sx_tg e.2.2.2.2.1) 1) (sx_and (Nat.beq (ax_k e.2.2.2.2.1) ky) (Nat.beq (sx_tg e.2.2.2.2.2) 1)))) (some e) ih) Y
/-- the same, and by what y is at least -/
noncomputable def ax_le (F : ax_F) (Y : ax_Y) (n x c fuel : Nat) : Nat → Bool := Nat.rec (fun y => ax_l0 F Y n x y c) (fun _ ih y => sx_if (ax_l0 F Y n x y c) true
  (sx_if (Nat.beq (sx_tg y) 1) (Option.rec false (fun e => sx_if (Nat.beq (sx_tg (Nat.pred e.2.2.1)) 1)
      (sx_fo (Nat.sub (Nat.add (Nat.pred e.2.2.1) (Nat.mul 524288 (ax_o y))) 4503599627370496) (fun y => sx_if (Nat.ble 4294967296 (ax_o y)) (ih y) false))
      (Option.rec false (fun e => sx_fo (Nat.sub (Nat.add e.2.2.2.2.2 (Nat.mul 524288 (Nat.add e.1 (ax_o y)))) (Nat.mul 524288 (Nat.add 2147483648 (ax_o e.2.2.2.2.1)))) (fun y => sx_if (Nat.ble 4294967296 (ax_o y)) (ih y) false)) (ax_dn Y (ax_k y)))) (ax_at Y n (ax_k y))) false)) fuel
/-- x and c more is at most y: a fact, if both are symbols -/
noncomputable def ax_af (F : ax_F) (x y c : Nat) (K : ax_F → ax_R) : ax_R :=
  sx_if (sx_and (Nat.beq (sx_tg x) 1) (Nat.beq (sx_tg y) 1)) (sx_fo (ax_k x) (fun kx => sx_fo (ax_k y) (fun ky => sx_fo (Nat.sub (Nat.add (Nat.add (ax_o x) c) 34359738368) (ax_o y)) (fun f => K ((kx, ky, f) :: F))))) (K F)
noncomputable def ax_lt (x y : Nat) (F : ax_F) (Y : ax_Y) (n : Nat) (K : Bool → ax_F → ax_Y → ax_R) : ax_R :=
  sx_if (ax_le F Y n x 1 40 y) (K true F Y) (sx_if (ax_le F Y n y 0 40 x) (K false F Y)
    (ax_rg none Y n x (fun xl xh => ax_rg none Y n y (fun yl yh =>
      ax_app (sx_if (Nat.beq yh 0) (some []) (ax_rv Y n x xl (Nat.pred yh) (fun Y => ax_rv Y n y (Nat.succ xl) yh (fun Y => ax_af F x y 1 (fun F => K true F Y)))))
        (ax_rv Y n x yl xh (fun Y => ax_rv Y n y yl xh (fun Y => ax_af F y x 0 (fun F => K false F Y))))))))
noncomputable def ax_eq (x y : Nat) (F : ax_F) (Y : ax_Y) (n : Nat) (K : Bool → ax_F → ax_Y → ax_R) : ax_R :=
  ax_nm Y n x (fun x => ax_nm Y n y (fun y => sx_if (Nat.beq x y) (K true F Y)
    (ax_rg none Y n x (fun xl xh => ax_rg none Y n y (fun yl yh =>
      sx_if (sx_if (Nat.blt xh yl) true (Nat.blt yh xl)) (K false F Y)
        (sx_if (sx_if (ax_le F Y n x 1 40 y) true (ax_le F Y n y 1 40 x)) (K false F Y)
          (ax_app (ax_rv Y n x (sx_mx xl yl) (sx_mn xh yh) (fun Y => ax_rv Y n y (sx_mx xl yl) (sx_mn xh yh) (fun Y => K true F Y)))
            (sx_if (Nat.beq yl yh) (ax_app (sx_if (Nat.beq yl 0) (some []) (ax_rv Y n x xl (Nat.pred yl) (fun Y => K false F Y))) (ax_rv Y n x (Nat.succ yl) xh (fun Y => K false F Y)))
              (sx_if (Nat.beq xl xh) (ax_app (sx_if (Nat.beq xl 0) (some []) (ax_rv Y n y yl (Nat.pred xl) (fun Y => K false F Y))) (ax_rv Y n y (Nat.succ xl) yh (fun Y => K false F Y)))
                (K false F Y))))))))))
noncomputable def ax_cmp (c x y : Nat) (F : ax_F) (Y : ax_Y) (n : Nat) (K : Bool → ax_F → ax_Y → ax_R) : ax_R :=
  sx_if (Nat.beq c 0) (ax_eq x y F Y n K) (sx_if (Nat.beq c 1) (ax_eq x y F Y n (fun b => K (!b)))
    (sx_if (Nat.beq c 2) (ax_lt x y F Y n K) (sx_if (Nat.beq c 3) (ax_lt x y F Y n (fun b => K (!b)))
      (sx_if (Nat.beq c 4) (ax_lt y x F Y n K) (ax_lt y x F Y n (fun b => K (!b)))))))
/-! sums and the like -/
noncomputable def ax_fd (Y : ax_Y) (n op x y : Nat) : Option Nat := (fun (f : ax_Y → Nat → Option Nat) => f Y n) (fun Y => List.rec (fun _ => none) (fun e _ ih n => sx_if (sx_and (Nat.beq e.2.2.2.1 op) (sx_and (Nat.beq e.2.2.2.2.1 x) (Nat.beq e.2.2.2.2.2 y))) (some (Nat.pred n)) (ih (Nat.pred n))) Y)
noncomputable def ax_fr (Y : ax_Y) (n lo hi ge op x y : Nat) (K : Nat → ax_Y → Nat → ax_R) : ax_R :=
  sx_if (Nat.blt n 65536) (sx_fo lo (fun lo => sx_fo hi (fun hi => sx_fo ge (fun ge => sx_fo x (fun x => sx_fo y (fun y => sx_fo (ax_sym n) (fun v => sx_fo (Nat.succ n) (fun n => K v ((lo, hi, ge, op, x, y) :: Y) n)))))))) none
/-- some int of lo to hi, made by op of x and y: the one made so before, a number, or a new one -/
noncomputable def ax_fn (Y : ax_Y) (n lo hi op x y : Nat) (K : Nat → ax_Y → Nat → ax_R) : ax_R :=
  sx_if (Nat.beq lo hi) (sx_fo (Nat.mul 8 (sx_bs lo)) (fun v => K v Y n))
    (sx_if (Nat.beq op 0) (ax_fr Y n lo hi 0 0 0 0 K) (Option.rec (ax_fr Y n lo hi 0 op x y K) (fun k => sx_if (Nat.blt k 65536) (sx_fo (ax_sym k) (fun v => K v Y n)) none) (ax_fd Y n op x y)))
noncomputable def ax_any (Y : ax_Y) (n : Nat) (K : Nat → ax_Y → Nat → ax_R) : ax_R := ax_fr Y n 0 4294967295 0 0 0 0 K
