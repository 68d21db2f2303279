/-! joined: 30.sxbase 32.sxexec -/
section
/-! sx: a checked executor over the machine. Numbers only: values, cells and code are naturals, so that the kernel runs it. -/
noncomputable def sx_fo {α : Type} (n : Nat) (k : Nat → α) : α := Nat.rec (k 0) (fun m _ => k (Nat.succ m)) n
theorem sx_fo_eq {α : Type} (n : Nat) (k : Nat → α) : sx_fo n k = k n := by cases n <;> rfl
noncomputable def sx_if {α : Type} (c : Bool) (a b : α) : α := Bool.rec b a c
theorem sx_if_t {α : Type} (a b : α) : sx_if true a b = a := rfl
theorem sx_if_f {α : Type} (a b : α) : sx_if false a b = b := rfl
theorem sx_if_eq {α : Type} (c : Bool) (a b : α) : sx_if c a b = if c = true then a else b := by cases c <;> rfl
/-! rows of places, 72 bits each, in one number -/
def sx_get (mem a : Nat) : Nat := Nat.mod (Nat.shiftRight mem (Nat.mul 72 a)) 4722366482869645213696
def sx_set (mem a v : Nat) : Nat := Nat.xor mem (Nat.shiftLeft (Nat.xor (sx_get mem a) v) (Nat.mul 72 a))
theorem sx_get_eq (mem a : Nat) : sx_get mem a = (mem >>> (72 * a)) % 2 ^ 72 := rfl
theorem sx_set_eq (mem a v : Nat) : sx_set mem a v = mem ^^^ ((sx_get mem a ^^^ v) <<< (72 * a)) := rfl
theorem sx_get_lt (mem a : Nat) : sx_get mem a < 2 ^ 72 := by rw [sx_get_eq]; exact Nat.mod_lt _ (by decide)
theorem sx_get_set {mem a v : Nat} (hv : v < 2 ^ 72) : sx_get (sx_set mem a v) a = v := by
  apply Nat.eq_of_testBit_eq
  intro i
  rw [sx_get_eq, sx_set_eq, Nat.testBit_mod_two_pow, Nat.testBit_shiftRight, Nat.testBit_xor, Nat.testBit_shiftLeft, Nat.testBit_xor, sx_get_eq, Nat.testBit_mod_two_pow, Nat.testBit_shiftRight]
  by_cases hi : i < 72
  · have h1 : 72 * a + i - 72 * a = i := by omega
    have h2 : 72 * a + i ≥ 72 * a := by omega
    simp [hi, h1, h2]
  · have h3 : v.testBit i = false := Nat.testBit_lt_two_pow (Nat.lt_of_lt_of_le hv (Nat.pow_le_pow_right (by decide) (by omega)))
    simp [hi, h3]
theorem sx_get_set_ne {mem a b v : Nat} (hv : v < 2 ^ 72) (h : b ≠ a) : sx_get (sx_set mem a v) b = sx_get mem b := by
  have hd : sx_get mem a ^^^ v < 2 ^ 72 := Nat.xor_lt_two_pow (sx_get_lt mem a) hv
  apply Nat.eq_of_testBit_eq
  intro i
  rw [sx_get_eq, sx_get_eq mem b, sx_set_eq, Nat.testBit_mod_two_pow, Nat.testBit_shiftRight, Nat.testBit_xor, Nat.testBit_shiftLeft, Nat.testBit_mod_two_pow, Nat.testBit_shiftRight]
  by_cases hi : i < 72
  · have h0 : (decide (72 * b + i ≥ 72 * a) && (sx_get mem a ^^^ v).testBit (72 * b + i - 72 * a)) = false := by
      by_cases hge : 72 * b + i ≥ 72 * a
      · have : 72 ≤ 72 * b + i - 72 * a := by omega
        rw [Nat.testBit_lt_two_pow (Nat.lt_of_lt_of_le hd (Nat.pow_le_pow_right (by decide) this))]
        simp
      · simp [hge]
    rw [h0]
    simp
  · simp [hi]
/-! four and four and four and four cells -/
abbrev sx_Q (α : Type) : Type := α × α × α × α
def sx_r4 {α : Type} (t : sx_Q α) (i : Nat) : α := if i = 0 then t.1 else if i = 1 then t.2.1 else if i = 2 then t.2.2.1 else t.2.2.2
def sx_w4 {α : Type} (t : sx_Q α) (i : Nat) (v : α) : sx_Q α := if i = 0 then (v, t.2) else if i = 1 then (t.1, v, t.2.2) else if i = 2 then (t.1, t.2.1, v, t.2.2.2) else (t.1, t.2.1, t.2.2.1, v)
theorem sx_r4_w4 {α : Type} (t : sx_Q α) (i : Nat) (v : α) : sx_r4 (sx_w4 t i v) i = v := by
  unfold sx_r4 sx_w4
  by_cases h0 : i = 0
  · simp [h0]
  · by_cases h1 : i = 1
    · simp [h1]
    · by_cases h2 : i = 2
      · simp [h2]
      · simp [h0, h1, h2]
theorem sx_r4_w4_ne {α : Type} (t : sx_Q α) {i j : Nat} (v : α) (hi : i < 4) (hj : j < 4) (h : j ≠ i) : sx_r4 (sx_w4 t i v) j = sx_r4 t j := by
  unfold sx_r4 sx_w4
  have hi' : i = 0 ∨ i = 1 ∨ i = 2 ∨ i = 3 := by omega
  have hj' : j = 0 ∨ j = 1 ∨ j = 2 ∨ j = 3 := by omega
  rcases hi' with rfl | rfl | rfl | rfl <;> rcases hj' with rfl | rfl | rfl | rfl <;> first | exact absurd rfl h | simp
noncomputable def sx_g4 {α β : Type} (t : sx_Q α) (i : Nat) (k : α → β) : β := Prod.rec (fun a r => Prod.rec (fun b r2 => Prod.rec (fun c d => sx_if (Nat.beq i 0) (k a) (sx_if (Nat.beq i 1) (k b) (sx_if (Nat.beq i 2) (k c) (k d)))) r2) r) t
noncomputable def sx_s4 {α β : Type} (t : sx_Q α) (i : Nat) (v : α) (k : sx_Q α → β) : β := Prod.rec (fun a r => Prod.rec (fun b r2 => Prod.rec (fun c d => sx_if (Nat.beq i 0) (k (v, b, c, d)) (sx_if (Nat.beq i 1) (k (a, v, c, d)) (sx_if (Nat.beq i 2) (k (a, b, v, d)) (k (a, b, c, v))))) r2) r) t
theorem sx_g4_eq {α β : Type} (t : sx_Q α) (i : Nat) (k : α → β) : sx_g4 t i k = k (sx_r4 t i) := by
  obtain ⟨a, b, c, d⟩ := t
  unfold sx_g4 sx_r4
  simp only [sx_if_eq, Nat.beq_eq]
  by_cases h0 : i = 0 <;> by_cases h1 : i = 1 <;> by_cases h2 : i = 2 <;> simp [h0, h1, h2]
theorem sx_s4_eq {α β : Type} (t : sx_Q α) (i : Nat) (v : α) (k : sx_Q α → β) : sx_s4 t i v k = k (sx_w4 t i v) := by
  obtain ⟨a, b, c, d⟩ := t
  unfold sx_s4 sx_w4
  simp only [sx_if_eq, Nat.beq_eq]
  by_cases h0 : i = 0 <;> by_cases h1 : i = 1 <;> by_cases h2 : i = 2 <;> simp [h0, h1, h2]
/-- a cell: its kind and length in one number, its places in another -/
abbrev sx_C : Type := Nat × Nat
abbrev sx_H : Type := sx_Q (sx_Q (sx_Q (sx_Q sx_C)))
def sx_rd (h : sx_H) (k : Nat) : sx_C := sx_r4 (sx_r4 (sx_r4 (sx_r4 h (k / 64 % 4)) (k / 16 % 4)) (k / 4 % 4)) (k % 4)
def sx_wr (h : sx_H) (k : Nat) (v : sx_C) : sx_H :=
  sx_w4 h (k / 64 % 4) (sx_w4 (sx_r4 h (k / 64 % 4)) (k / 16 % 4) (sx_w4 (sx_r4 (sx_r4 h (k / 64 % 4)) (k / 16 % 4)) (k / 4 % 4) (sx_w4 (sx_r4 (sx_r4 (sx_r4 h (k / 64 % 4)) (k / 16 % 4)) (k / 4 % 4)) (k % 4) v)))
theorem sx_rd_wr (h : sx_H) (k : Nat) (v : sx_C) : sx_rd (sx_wr h k v) k = v := by unfold sx_rd sx_wr; simp only [sx_r4_w4]
theorem sx_rd_wr_ne (h : sx_H) {k j : Nat} (v : sx_C) (hk : k < 256) (hj : j < 256) (hne : j ≠ k) : sx_rd (sx_wr h k v) j = sx_rd h j := by
  unfold sx_rd sx_wr
  by_cases h3 : j / 64 % 4 = k / 64 % 4
  · rw [h3, sx_r4_w4]
    by_cases h2 : j / 16 % 4 = k / 16 % 4
    · rw [h2, sx_r4_w4]
      by_cases h1 : j / 4 % 4 = k / 4 % 4
      · rw [h1, sx_r4_w4]
        have h0 : j % 4 ≠ k % 4 := by omega
        rw [sx_r4_w4_ne _ _ (by omega) (by omega) h0]
      · rw [sx_r4_w4_ne _ _ (by omega) (by omega) h1]
    · rw [sx_r4_w4_ne _ _ (by omega) (by omega) h2]
  · rw [sx_r4_w4_ne _ _ (by omega) (by omega) h3]
noncomputable def sx_rdK {β : Type} (h : sx_H) (k : Nat) (f : Nat → Nat → β) : β := sx_g4 h (Nat.mod (Nat.div k 64) 4) (fun h3 => sx_g4 h3 (Nat.mod (Nat.div k 16) 4) (fun h2 => sx_g4 h2 (Nat.mod (Nat.div k 4) 4) (fun h1 => sx_g4 h1 (Nat.mod k 4) (fun c => Prod.rec (fun a b => f a b) c))))
noncomputable def sx_wrK {β : Type} (h : sx_H) (k : Nat) (v : sx_C) (f : sx_H → β) : β := sx_g4 h (Nat.mod (Nat.div k 64) 4) (fun h3 => sx_g4 h3 (Nat.mod (Nat.div k 16) 4) (fun h2 => sx_g4 h2 (Nat.mod (Nat.div k 4) 4) (fun h1 => sx_s4 h1 (Nat.mod k 4) v (fun n1 => sx_s4 h2 (Nat.mod (Nat.div k 4) 4) n1 (fun n2 => sx_s4 h3 (Nat.mod (Nat.div k 16) 4) n2 (fun n3 => sx_s4 h (Nat.mod (Nat.div k 64) 4) n3 f))))))
theorem sx_rdK_eq {β : Type} (h : sx_H) (k : Nat) (f : Nat → Nat → β) : sx_rdK h k f = f (sx_rd h k).1 (sx_rd h k).2 := by unfold sx_rdK; simp only [sx_g4_eq]; rfl
theorem sx_wrK_eq {β : Type} (h : sx_H) (k : Nat) (v : sx_C) (f : sx_H → β) : sx_wrK h k v f = f (sx_wr h k v) := by unfold sx_wrK; simp only [sx_g4_eq, sx_s4_eq]; rfl
/-! rows -/
noncomputable def sx_nth {α : Type} (l : List α) : Nat → Option α := List.rec (fun _ => none) (fun a _ ih k => Nat.rec (some a) (fun k' _ => ih k') k) l
theorem sx_nth_eq {α : Type} (l : List α) (k : Nat) : sx_nth l k = l[k]? := by
  induction l generalizing k with
  | nil => rfl
  | cons a t ih =>
    cases k with
    | zero => rfl
    | succ k => show sx_nth t k = _; rw [ih]; rfl
noncomputable def sx_stK {α β : Type} (v : α) (l : List α) : Nat → (List α → β) → β := List.rec (fun _ K => K []) (fun a t ih i K => Nat.rec (K (v :: t)) (fun i' _ => ih i' (fun t' => K (a :: t'))) i) l
theorem sx_stK_eq {α β : Type} (v : α) (l : List α) (i : Nat) (K : List α → β) : sx_stK v l i K = K (l.set i v) := by
  induction l generalizing i K with
  | nil => rfl
  | cons a t ih =>
    cases i with
    | zero => rfl
    | succ i => show sx_stK v t i (fun t' => K (a :: t')) = _; rw [ih]; rfl
/-- the place of a local or 7, which is none -/
noncomputable def sx_ln (l : List Nat) : Nat → Nat := List.rec (fun _ => 7) (fun a _ ih k => Nat.rec a (fun k' _ => ih k') k) l
theorem sx_ln_eq (l : List Nat) (k : Nat) : sx_ln l k = l.getD k 7 := by
  induction l generalizing k with
  | nil => rfl
  | cons a t ih =>
    cases k with
    | zero => rfl
    | succ k => show sx_ln t k = _; rw [ih]; rfl
end
section
/-! sx: the executor. A value v: v % 8 = 0 the int v / 8, 1 the int of symbol v / 8, 2 the cell v / 8, 3 null, 4 the long v / 8, 5 the script, 7 none. Of a symbol: least, greatest (both with 2^31 more), 1 + the symbol that it is so much more than, how much. -/
abbrev sx_Y : Type := List (Nat × Nat × Nat × Nat)
abbrev sx_O : Type := Nat × Nat × sx_H × Nat × sx_Y × Nat × Nat
abbrev sx_R : Type := Option (List sx_O)
/-- a loop's head that stands open: pc, locals, stack, cells, how many, symbols, first symbol of its own, local of the rank, made so far -/
abbrev sx_I : Type := Nat × List Nat × List Nat × sx_H × Nat × sx_Y × Nat × Nat × List (Nat × Nat × Nat) × Nat × Nat
abbrev sx_ih : Type := Nat → Nat → Nat → List sx_I → Bool → Nat → List Nat → List Nat → sx_H → Nat → sx_Y → Nat → Nat → sx_R
noncomputable def sx_app (a b : sx_R) : sx_R := Option.rec none (fun x => Option.rec none (fun y => some (x ++ y)) b) a
def sx_bs (x : Nat) : Nat := Nat.mod (Nat.add x 2147483648) 4294967296
def sx_tg (v : Nat) : Nat := Nat.mod v 8
def sx_pl (v : Nat) : Nat := Nat.div v 8
/-- an int that is known gets to be a number -/
noncomputable def sx_nm (sy : sx_Y) (v : Nat) (K : Nat → sx_R) : sx_R :=
  sx_if (Nat.beq (sx_tg v) 1) (Option.rec none (fun e => sx_if (Nat.beq e.1 e.2.1) (sx_fo (Nat.mul 8 (sx_bs e.1)) K) (K v)) (sx_nth sy (sx_pl v))) (K v)
noncomputable def sx_rf (sy : sx_Y) (k lo hi : Nat) (K : sx_Y → sx_R) : sx_R :=
  sx_if (Nat.ble lo hi) (Option.rec none (fun e => sx_fo lo (fun lo => sx_fo hi (fun hi => sx_stK (lo, hi, e.2.2.1, e.2.2.2) sy k K))) (sx_nth sy k)) (some [])
noncomputable def sx_mn (a b : Nat) : Nat := sx_if (Nat.ble a b) a b
noncomputable def sx_mx (a b : Nat) : Nat := sx_if (Nat.ble a b) b a
/-- a symbol of few values: one after the other -/
noncomputable def sx_en (sy : sx_Y) (k lo hi : Nat) (K : sx_Y → sx_R) : sx_R :=
  sx_if (Nat.ble hi (Nat.add lo 64)) (Nat.rec (some []) (fun i ih => sx_app ih (sx_fo (Nat.add lo i) (fun x => sx_rf sy k x x K))) (Nat.sub (Nat.succ hi) lo)) none
/-- 0 eq, 1 ne, 2 lt, 3 ge, 4 gt, 5 le, of numbers -/
noncomputable def sx_cb (c a b : Nat) : Bool :=
  sx_if (Nat.beq c 0) (Nat.beq a b) (sx_if (Nat.beq c 1) (!Nat.beq a b) (sx_if (Nat.beq c 2) (Nat.blt a b) (sx_if (Nat.beq c 3) (Nat.ble b a) (sx_if (Nat.beq c 4) (Nat.blt b a) (Nat.ble a b)))))
/-- the same of a and b the other way round -/
noncomputable def sx_cw (c : Nat) : Nat := sx_if (Nat.beq c 2) 4 (sx_if (Nat.beq c 3) 5 (sx_if (Nat.beq c 4) 2 (sx_if (Nat.beq c 5) 3 c)))
/-- a symbol k in lo to hi against the number b -/
noncomputable def sx_cs (c : Nat) (sy : sx_Y) (k lo hi b : Nat) (K : Bool → sx_Y → sx_R) : sx_R :=
  sx_if (Nat.ble c 1)
    (sx_app (sx_rf sy k (sx_mx lo b) (sx_mn hi b) (K (Nat.beq c 0))) (sx_app (sx_if (Nat.beq b 0) (some []) (sx_rf sy k lo (sx_mn hi (Nat.pred b)) (K (Nat.beq c 1)))) (sx_rf sy k (sx_mx lo (Nat.succ b)) hi (K (Nat.beq c 1)))))
    (sx_if (Nat.ble c 3)
      (sx_app (sx_if (Nat.beq b 0) (some []) (sx_rf sy k lo (sx_mn hi (Nat.pred b)) (K (Nat.beq c 2)))) (sx_rf sy k (sx_mx lo b) hi (K (Nat.beq c 3))))
      (sx_app (sx_rf sy k lo (sx_mn hi b) (K (Nat.beq c 5))) (sx_rf sy k (sx_mx lo (Nat.succ b)) hi (K (Nat.beq c 4)))))
/-- two symbols, c lt or ge -/
noncomputable def sx_cy (t f : Bool) (sy : sx_Y) (i li hi j lj hj : Nat) (K : Bool → sx_Y → sx_R) : sx_R :=
  sx_app (sx_if (Nat.beq hj 0) (some []) (sx_rf sy i li (sx_mn hi (Nat.pred hj)) (fun sy => sx_rf sy j (sx_mx lj (Nat.succ li)) hj (K t))))
    (sx_rf sy i (sx_mx li lj) hi (fun sy => sx_rf sy j lj (sx_mn hj hi) (K f)))
noncomputable def sx_cmp (c x y : Nat) (sy : sx_Y) (K : Bool → sx_Y → sx_R) : sx_R :=
  sx_nm sy x (fun x => sx_nm sy y (fun y =>
    sx_if (Nat.beq (sx_tg x) 0)
      (sx_if (Nat.beq (sx_tg y) 0) (K (sx_cb c (sx_bs (sx_pl x)) (sx_bs (sx_pl y))) sy)
        (sx_if (Nat.beq (sx_tg y) 1) (Option.rec none (fun e => sx_fo (sx_bs (sx_pl x)) (fun b => sx_cs (sx_cw c) sy (sx_pl y) e.1 e.2.1 b K)) (sx_nth sy (sx_pl y))) none))
      (sx_if (Nat.beq (sx_tg x) 1)
        (Option.rec none (fun e => sx_if (Nat.beq (sx_tg y) 0) (sx_fo (sx_bs (sx_pl y)) (fun b => sx_cs c sy (sx_pl x) e.1 e.2.1 b K))
          (sx_if (Nat.beq (sx_tg y) 1)
            (Option.rec none (fun e2 =>
              sx_if (Nat.ble c 1) (sx_en sy (sx_pl x) e.1 e.2.1 (fun sy => Option.rec none (fun e => Option.rec none (fun e2 => sx_cs (sx_cw c) sy (sx_pl y) e2.1 e2.2.1 e.1 K) (sx_nth sy (sx_pl y))) (sx_nth sy (sx_pl x))))
                (sx_if (Nat.ble c 3) (sx_cy (Nat.beq c 2) (Nat.beq c 3) sy (sx_pl x) e.1 e.2.1 (sx_pl y) e2.1 e2.2.1 K)
                  (sx_cy (Nat.beq c 4) (Nat.beq c 5) sy (sx_pl y) e2.1 e2.2.1 (sx_pl x) e.1 e.2.1 K))) (sx_nth sy (sx_pl y))) none)) (sx_nth sy (sx_pl x))) none)))
/-! numbers -/
def sx_i (z : Int32) : Nat := Nat.mul 8 z.toBitVec.toNat
def sx_j (z : Int64) : Nat := Nat.add (Nat.mul 8 z.toBitVec.toNat) 4
noncomputable def sx_bf (o : Nat) (x y : Int32) : Int32 :=
  sx_if (Nat.beq o 1) (x - y) (sx_if (Nat.beq o 2) (x * y) (sx_if (Nat.beq o 3) (x &&& y) (sx_if (Nat.beq o 4) (x ||| y) (sx_if (Nat.beq o 5) (x ^^^ y) (sx_if (Nat.beq o 6) (x <<< (y &&& 31)) (sx_if (Nat.beq o 7) (x >>> (y &&& 31))
    (sx_if (Nat.beq o 8) (x.toUInt32 >>> (y.toUInt32 &&& Int32.toUInt32 31)).toInt32 (sx_if (Nat.beq o 9) (x / y) (sx_if (Nat.beq o 10) (x - x / y * y) (x + y))))))))))
/-- two known ints -/
noncomputable def sx_bk (o x y : Nat) (K : Nat → sx_R) : sx_R :=
  sx_if (Nat.beq o 0) (sx_fo (Nat.mul 8 (Nat.mod (Nat.add x y) 4294967296)) K)
    (sx_if (Nat.ble 9 o) (sx_if (Nat.beq (Nat.mod y 4294967296) 0) none (sx_fo (sx_i (sx_bf o (Int32.ofNat x) (Int32.ofNat y))) K)) (sx_fo (sx_i (sx_bf o (Int32.ofNat x) (Int32.ofNat y))) K))
noncomputable def sx_fr (sy : sx_Y) (lo hi pr off : Nat) (K : Nat → sx_Y → sx_R) : sx_R := sx_fo lo (fun lo => sx_fo hi (fun hi => sx_fo (Nat.add (Nat.mul 8 (List.length sy)) 1) (fun v => K v (sy ++ [(lo, hi, pr, off)]))))
/-- some symbol: few values one after the other, else any -/
noncomputable def sx_bm (o x y : Nat) (sy : sx_Y) (K : Nat → sx_Y → sx_R) : sx_R :=
  sx_if (Nat.beq (sx_tg x) 1)
    (Option.rec none (fun e => sx_if (Nat.ble e.2.1 (Nat.add e.1 64))
      (sx_en sy (sx_pl x) e.1 e.2.1 (fun sy => sx_nm sy x (fun x => sx_nm sy y (fun y => sx_if (Nat.beq (sx_tg x) 0) (sx_if (Nat.beq (sx_tg y) 0) (sx_bk o (sx_pl x) (sx_pl y) (fun v => K v sy))
        (sx_if (Nat.beq (sx_tg y) 1) (sx_if (Nat.ble 9 o) none (sx_fr sy 0 4294967295 0 0 K)) none)) none))))
      (sx_if (Nat.ble (sx_tg y) 1) (sx_if (Nat.ble 9 o) none (sx_fr sy 0 4294967295 0 0 K)) none)) (sx_nth sy (sx_pl x)))
    (sx_if (Nat.beq (sx_tg x) 0) (sx_if (Nat.beq (sx_tg y) 1)
      (Option.rec none (fun e => sx_if (Nat.ble e.2.1 (Nat.add e.1 64))
        (sx_en sy (sx_pl y) e.1 e.2.1 (fun sy => sx_nm sy y (fun y => sx_if (Nat.beq (sx_tg y) 0) (sx_bk o (sx_pl x) (sx_pl y) (fun v => K v sy)) none)))
        (sx_if (Nat.ble 9 o) none (sx_fr sy 0 4294967295 0 0 K))) (sx_nth sy (sx_pl y))) none) none)
noncomputable def sx_bin (o x y : Nat) (sy : sx_Y) (K : Nat → sx_Y → sx_R) : sx_R :=
  sx_nm sy x (fun x => sx_nm sy y (fun y =>
    sx_if (Nat.beq (sx_tg x) 0)
      (sx_if (Nat.beq (sx_tg y) 0) (sx_bk o (sx_pl x) (sx_pl y) (fun v => K v sy))
        (sx_if (Nat.beq o 3) (sx_if (Nat.blt (sx_pl x) 2147483648) (sx_if (Nat.beq (sx_tg y) 1) (sx_fr sy 2147483648 (Nat.add 2147483648 (sx_pl x)) 0 0 K) none) (sx_bm o x y sy K)) (sx_bm o x y sy K)))
      (sx_if (Nat.beq (sx_tg y) 0)
        (sx_if (Nat.beq (sx_tg x) 1)
          (sx_if (Nat.beq o 3) (sx_if (Nat.blt (sx_pl y) 2147483648) (sx_fr sy 2147483648 (Nat.add 2147483648 (sx_pl y)) 0 0 K) (sx_bm o x y sy K))
            (sx_if (Nat.beq o 0) (Option.rec none (fun e => sx_if (Nat.blt (Nat.add e.2.1 (sx_pl y)) 4294967296) (sx_fr sy (Nat.add e.1 (sx_pl y)) (Nat.add e.2.1 (sx_pl y)) (Nat.succ (sx_pl x)) (sx_pl y) K) (sx_bm o x y sy K)) (sx_nth sy (sx_pl x))) (sx_bm o x y sy K))) none)
        (sx_bm o x y sy K))))
/-! the tables of the program stand behind: words of 80 bits by place; of a method its code, and how many locals, arguments, cells and places it makes, its handlers -/
def sx_ft (cd pc : Nat) : Nat := Nat.mod (Nat.shiftRight cd (Nat.mul 80 pc)) 1208925819614629174706176
def sx_op (w : Nat) : Nat := Nat.mod w 64
def sx_wh (w : Nat) : Nat := Nat.mod (Nat.div w 64) 2
def sx_wa (w : Nat) : Nat := Nat.mod (Nat.div w 128) 65536
def sx_wb (w : Nat) : Nat := Nat.mod (Nat.div w 8388608) 65536
def sx_wc (w : Nat) : Nat := Nat.div w 549755813888
noncomputable def sx_tk (n : Nat) : List Nat → List Nat → (List Nat → List Nat → sx_R) → sx_R := Nat.rec (fun S acc K => K acc S) (fun _ ih S acc K => List.rec none (fun v t _ => ih t (v :: acc) K) S) n
/-- arguments as locals, n in all -/
noncomputable def sx_pd (n : Nat) : List Nat := Nat.rec [] (fun _ ih => 7 :: ih) n
noncomputable def sx_xp (av : List Nat) : Nat → Option (List Nat) := List.rec (fun n => some (sx_pd n)) (fun v _ ih n => Nat.rec none (fun n' _ => sx_if (Nat.beq (sx_tg v) 4) (Nat.rec none (fun n2 _ => Option.map (fun t => v :: 7 :: t) (ih n2)) n') (Option.map (fun t => v :: t) (ih n'))) n) av
end
