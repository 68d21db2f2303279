/-! ax: heads of loops, the run, a contract held against its method's run -/
noncomputable def ax_hd (l : List (Nat × Nat × List ax_H)) (mi pc : Nat) : Option ax_H := List.rec none (fun q _ ih => sx_if (Nat.beq q.1 mi) (sx_if (ax_tb q.2.1 pc) (List.rec none (fun h _ ih => sx_if (Nat.beq h.1 pc) (some h) ih) q.2.2) none) ih) l
noncomputable def ax_ef (l : List (Nat × Nat × Nat)) (mi pc : Nat) : Option Nat := List.rec none (fun q _ ih => sx_if (sx_and (Nat.beq q.1 mi) (Nat.beq q.2.1 pc)) (some q.2.2) ih) l
/-- locals that change: within their bounds; (i, 1, 0) any but a long, (i, 2, 0) some long, (i, 3, 0) any -/
noncomputable def ax_li (Y : ax_Y) (n : Nat) (L : List Nat) (ls : List (Nat × Nat × Nat × Nat)) : Bool := List.rec true (fun q _ ih => sx_and (sx_and (Nat.blt q.1 (List.length L)) (sx_if (Nat.ble q.2.1 q.2.2.1) (ax_in Y n (sx_ln L q.1) q.2.1 q.2.2.1) (sx_if (Nat.beq q.2.1 1) (ax_nl (sx_ln L q.1)) (sx_if (Nat.beq q.2.1 2) (ax_lg (sx_ln L q.1)) true)))) ih) ls
noncomputable def ax_ms (M : ax_M) (Y : ax_Y) (n : Nat) (ms : List (Nat × Nat × Nat × Nat)) : Bool := ax_pm M Y n ms
/-- a new symbol for each local that changes -/
noncomputable def ax_ol (L0 : List Nat) (ls : List (Nat × Nat × Nat × Nat)) : List Nat → List (Nat × Nat × Nat × Nat) → ax_Y → Nat → (List Nat → List (Nat × Nat × Nat × Nat) → ax_Y → Nat → ax_R) → ax_R := List.rec (fun L E Y n K => K L E Y n) (fun q _ ih L E Y n K => sx_if (Nat.ble q.2.1 q.2.2.1) (sx_fo (sx_if (Nat.beq q.2.2.2 1) (sx_fo (sx_ln L0 q.1) (fun a => sx_if (Nat.beq (sx_tg a) 1) (Nat.succ a) 0)) 0) (fun a => ax_fr Y n q.2.1 q.2.2.1 a 0 0 0 (fun v Y n => sx_stK v L q.1 (fun L => ih L ((q.1, q.2.1, q.2.2.1, a) :: E) Y n K)))) (sx_stK (sx_if (Nat.beq q.2.1 1) 7 (sx_if (Nat.beq q.2.1 2) 23 39)) L q.1 (fun L => ih L ((q.1, q.2.1, q.2.2.1, 0) :: E) Y n K))) ls
/-- a new symbol for each place that changes, at least what was there -/
noncomputable def ax_om (M0 : ax_M) (ms : List (Nat × Nat × Nat × Nat)) : ax_M → List (Nat × Nat × Nat × Nat × Nat × Nat) → ax_Y → Nat → (ax_M → List (Nat × Nat × Nat × Nat × Nat × Nat) → ax_Y → Nat → ax_R) → ax_R := List.rec (fun M E Y n K => K M E Y n) (fun q _ ih M E Y n K =>
  Option.rec none (fun a => ax_fr Y n q.2.2.1 q.2.2.2 (sx_if (Nat.beq (sx_tg a) 1) (Nat.succ a) 0) 0 0 0 (fun v Y n => sx_fo (Nat.mul 8 q.2.1) (fun key => ih ((q.1, key, v) :: M) ((q.1, q.2.1, v, q.2.2.1, q.2.2.2, a) :: E) Y n K))) (ax_mg M0 q.1 (Nat.mul 8 q.2.1))) ms
noncomputable def ax_dl (ms : List (Nat × Nat × Nat × Nat)) (M : ax_M) : ax_M := List.rec M (fun q _ ih => List.rec [] (fun m _ r => sx_if (sx_and (Nat.beq m.1 q.1) (Nat.beq m.2.1 (Nat.mul 8 q.2.1))) r (m :: r)) ih) ms
/-- and at least what they were -/
noncomputable def ax_lb (L : List Nat) (F : ax_F) (Y : ax_Y) (n : Nat) (ls : List (Nat × Nat × Nat × Nat)) : Bool := List.rec true (fun q _ ih => sx_and (sx_if (Nat.beq q.2.2.2 0) true (ax_le F Y n (Nat.pred q.2.2.2) 0 40 (sx_ln L q.1))) ih) ls
/-- the changing locals as at the head, to compare the others -/
noncomputable def ax_lx (L0 : List Nat) (ls : List (Nat × Nat × Nat × Nat)) : List Nat → (List Nat → Bool) → Bool := List.rec (fun L K => K L) (fun q _ ih L K => sx_stK (sx_ln L0 q.1) L q.1 (fun L => ih L K)) ls
noncomputable def ax_le7 (a : List Nat) : List Nat → Bool := List.rec (fun b => List.rec true (fun _ _ _ => false) b) (fun x _ ih b => List.rec false (fun y t _ => sx_and (sx_if (Nat.beq y 39) true (sx_if (Nat.beq y 7) (ax_nl x) (sx_if (Nat.beq y 23) (ax_lg x) (Nat.beq x y)))) (ih t)) b) a
noncomputable def ax_me (Y : ax_Y) (n : Nat) (M : ax_M) (M0 : ax_M) : Bool := List.rec true (fun m _ ih => sx_and (Option.rec false (fun v => sx_if (Nat.beq v m.2.2) true (ax_nm Y n v (fun v => ax_nm Y n m.2.2 (fun u => Nat.beq v u)))) (ax_mg M m.1 m.2.1)) ih) M0
noncomputable def ax_mb (M : ax_M) (F : ax_F) (Y : ax_Y) (n : Nat) (E : List (Nat × Nat × Nat × Nat × Nat × Nat)) : Bool := List.rec true (fun q _ ih => sx_and (Option.rec false (fun v => sx_and (ax_in Y n v q.2.2.2.1 q.2.2.2.2.1) (sx_if (Nat.beq (sx_tg q.2.2.2.2.2) 1) (ax_le F Y n q.2.2.2.2.2 0 40 v) true)) (ax_mg M q.1 (Nat.mul 8 q.2.1))) ih) E
noncomputable def ax_rk (e : ax_I) (L : List Nat) (M : ax_M) (F : ax_F) (Y : ax_Y) (n : Nat) : Bool :=
  sx_if (Nat.beq e.2.2.2.2.2.2.1 0) (sx_fo (sx_ln e.2.2.1 e.2.2.2.2.2.2.2.1) (fun v0 => sx_fo (sx_ln L e.2.2.2.2.2.2.2.1) (fun v => sx_and (ax_ii v0 v) (sx_if (Nat.beq e.2.2.2.2.2.2.2.2 1) (ax_le F Y n v0 1 40 v) (ax_le F Y n v 1 40 v0)))))
    (Option.rec false (fun q => Option.rec false (fun v => sx_and (ax_ii q.2.2.1 v) (sx_if (Nat.beq e.2.2.2.2.2.2.2.2 1) (ax_le F Y n q.2.2.1 1 40 v) (ax_le F Y n v 1 40 q.2.2.1))) (ax_mg M q.1 (Nat.mul 8 q.2.1))) (sx_nth e.2.2.2.2.1 e.2.2.2.2.2.2.2.1))
/-- back at the head e -/
noncomputable def ax_bc (e : ax_I) (L S : List Nat) (M : ax_M) (F : ax_F) (Y : ax_Y) (n th : Nat) : Bool :=
  sx_and (sx_and (Nat.ble (Nat.mul 2 th) e.2.1) (List.rec true (fun _ _ _ => false) S)) (sx_and (sx_and (ax_li Y n L e.2.2.2.2.2.1) (ax_lb L F Y n e.2.2.2.2.2.1)) (sx_and (ax_lx e.2.2.1 e.2.2.2.2.2.1 L (fun L => ax_le7 L e.2.2.1)) (sx_and (ax_mb M F Y n e.2.2.2.2.1) (sx_and (ax_me Y n M e.2.2.2.1) (ax_rk e L M F Y n)))))
/-- back at the law's own head: the local of the rank is 6 more, the two places are one; e's memo names them -/
noncomputable def ax_bw (e : ax_I) (L S : List Nat) (M : ax_M) (Y : ax_Y) (n : Nat) : Bool :=
  sx_and (List.rec true (fun _ _ _ => false) S) (sx_and (ax_le7 L e.2.2.1) (List.rec true (fun q _ ih => sx_and (Option.rec false (fun v => Option.rec false (fun u => sx_and (ax_ii v u) (ax_nm Y n v (fun v => ax_nm Y n u (fun u => Nat.beq v u)))) (ax_mg M q.2.1 (Nat.mul 8 q.2.2.1))) (ax_mg M q.1 (Nat.mul 8 q.2.2.2.1))) ih) e.2.2.2.2.1))
noncomputable def ax_any1 (pc : Nat) (t : ax_I → Bool) (l : List ax_I) : Bool := List.rec false (fun e _ ih => sx_if (sx_and (Nat.beq e.1 pc) (t e)) true ih) l
section AXRun
variable (ih : ax_ih) (g : ax_G) (d mi cd : Nat) (lst : List ax_I) (pc : Nat) (L S : List Nat) (M : ax_M) (F : ax_F) (Y : ax_Y) (n th : Nat)
noncomputable def ax_nx : ax_R := sx_fo (sx_ft cd pc) (fun w => sx_if (Nat.beq (sx_wh w) 0) (Option.rec (ax_body ih g w d mi cd lst pc L S M F Y n th) (fun dp => sx_fo (sx_ln S dp) (fun v => ax_en Y n v 255 (fun _ Y => ax_body ih g w d mi cd lst pc L S M F Y n th))) (ax_ef g.2.2.2.2.1 mi pc)) none)
noncomputable def ax_open (h : ax_H) : ax_R := ax_ol L h.2.1 L [] Y n (fun L E0 Y n => ax_om M h.2.2.1 (ax_dl h.2.2.1 (ax_dr h.2.2.2.1 M)) [] Y n (fun M' E Y n =>
  sx_fo (Nat.mul 2 th) (fun t2 => ih d mi cd ((pc, t2, L, ax_dl h.2.2.1 (ax_dr h.2.2.2.1 M), E, E0, h.2.2.2.2.1, h.2.2.2.2.2.1, h.2.2.2.2.2.2) :: lst) true pc L [] M' F Y n th)))
noncomputable def ax_step (fl : Bool) : ax_R := sx_if fl (ax_nx ih g d mi cd lst pc L S M F Y n th)
  (sx_if (ax_any1 pc (fun e => sx_if (Nat.beq e.2.1 1) (ax_bw e L S M Y n) (ax_bc e L S M F Y n th)) lst) (some [])
    (Option.rec (ax_nx ih g d mi cd lst pc L S M F Y n th) (fun h => sx_if (sx_and (List.rec true (fun _ _ _ => false) S) (sx_and (ax_li Y n L h.2.1) (ax_ms M Y n h.2.2.1))) (ax_open ih d mi cd lst pc L M F Y n th h) (ax_nx ih g d mi cd lst pc L S M F Y n th)) (ax_hd g.2.2.2.1 mi pc)))
end AXRun
noncomputable def ax_run (g : ax_G) (fuel : Nat) : ax_ih := Nat.rec (fun _ _ _ _ _ _ _ _ _ _ _ _ _ => none) (fun _ ih d mi cd lst fl pc L S M F Y n th => ax_step ih g d mi cd lst pc L S M F Y n th fl) fuel
/-! a contract -/
noncomputable def ax_sa (as : List (Nat × Nat × Nat)) : ax_Y → Nat → List Nat → (List Nat → ax_Y → Nat → ax_R) → ax_R := List.rec (fun Y n acc K => K (List.reverse acc) Y n) (fun q _ ih Y n acc K => sx_if (Nat.beq q.1 0) (sx_if (Nat.beq (sx_tg q.2.1) 1) none (ih Y n (q.2.1 :: acc) K)) (sx_if (Nat.beq q.1 2) (ih Y n (23 :: acc) K) (ax_fr Y n q.2.1 q.2.2 0 0 0 0 (fun v Y n => ih Y n (v :: acc) K)))) as
noncomputable def ax_sp (ps : List (Nat × Nat × Nat × Nat)) : ax_M → ax_Y → Nat → (ax_M → ax_Y → Nat → ax_R) → ax_R := List.rec (fun M Y n K => K M Y n) (fun q _ ih M Y n K => ax_fr Y n q.2.2.1 q.2.2.2 0 0 0 0 (fun v Y n => sx_fo (Nat.mul 8 q.2.1) (fun key => ih ((q.1, key, v) :: M) Y n K))) ps
def ax_pc (z : Nat) : Nat := z % 2 + z / 2 % 2 + z / 4 % 2 + z / 8 % 2 + z / 16 % 2 + z / 32 % 2 + z / 64 % 2 + z / 128 % 2
/-- an end against the contract's -/
noncomputable def ax_tp (M0 M : ax_M) (F : ax_F) (Y : ax_Y) (n : Nat) (ps : List ax_P) : Bool := List.rec true (fun q _ ih => sx_and (sx_and (Nat.blt q.1 160) (Option.rec false (fun v => sx_and (ax_in Y n v q.2.2.1 q.2.2.2.1) (sx_if (Nat.beq q.2.2.2.2 0) true (Option.rec false (fun u => ax_le F Y n u (Nat.pred q.2.2.2.2) 40 v) (ax_mg M0 q.1 (Nat.mul 8 q.2.1))))) (ax_mg M q.1 (Nat.mul 8 q.2.1)))) ih) ps
noncomputable def ax_t1 (fn a0 : Nat) (M0 : ax_M) (o : ax_O) (t : ax_T) : Bool := Prod.rec (fun kd q => Prod.rec (fun v q => Prod.rec (fun M q => Prod.rec (fun F q => Prod.rec (fun Y q => Prod.rec (fun n th =>
  sx_and (sx_and (Nat.beq kd (Nat.mod t.1 16)) (sx_if (Nat.beq t.2.1 0) true (Nat.beq kd 1))) (sx_and (Nat.ble th (Nat.div t.1 16)) (sx_and (sx_if (Nat.beq t.2.1 1) (sx_and (ax_in Y n v t.2.2.1 t.2.2.2.1) (sx_if (Nat.beq fn 1) (ax_nm Y n a0 (fun a0 => ax_nm Y n v (fun v => sx_and (Nat.beq (sx_tg a0) 0) (Nat.beq v (Nat.mul 8 (ax_pc (sx_pl a0))))))) true)) (sx_if (Nat.beq t.2.1 2) (ax_lg v) true)) (ax_tp M0 M F Y n t.2.2.2.2)))) q) q) q) q) q) o
noncomputable def ax_ta (fn a0 : Nat) (M0 : ax_M) (ts : List ax_T) (os : List ax_O) : Bool := List.rec true (fun o _ ih => sx_and (List.rec false (fun t _ ih => sx_if (ax_t1 fn a0 M0 o t) true ih) ts) ih) os
/-- the contract's run: each end is one of its; en: 1 + the argument that is taken one by one -/
noncomputable def ax_chk (g : ax_G) (c : ax_C) (en fuel : Nat) : Bool :=
  Option.rec false (fun os => List.rec true (fun _ _ _ => false) os) (ax_sa c.2.2.1 [] 0 [] (fun av Y n => ax_sp c.2.2.2.1 [] Y n (fun M Y n => ax_mtK c.1 (fun cd f => Option.rec none (fun L =>
    (fun (K : ax_Y → ax_R) => sx_if (Nat.beq en 0) (K Y) (sx_fo (sx_ln av (Nat.pred en)) (fun v => ax_en Y n v 255 (fun _ Y => K Y)))) (fun Y =>
      Option.rec none (fun os => sx_fo (sx_ln av 0) (fun a0 => sx_if (ax_ta c.2.2.2.2.2.1 a0 M c.2.2.2.2.2.2 os) (some []) none)) (ax_run g fuel c.2.1 c.1 cd [] false 0 L [] M [] Y n 0))) (ax_xp av (sx_im f))))))
