/-! sx: the methods, each against its words -/
def sx_lU : List UInt8 → List UInt8 → Bool
  | [], [] => true
  | x :: a, y :: z => Nat.beq x.toNat y.toNat && sx_lU a z
  | _, _ => false
theorem sx_lU_ok : ∀ {a z : List UInt8}, sx_lU a z = true → a = z
  | [], [], _ => rfl
  | [], _ :: _, h => by cases h
  | _ :: _, [], h => by cases h
  | x :: a, y :: z, h => by
    unfold sx_lU at h
    rw [Bool.and_eq_true] at h
    rw [sx_lU_ok h.2, UInt8.toNat_inj.mp (Nat.eq_of_beq_eq_true h.1)]
def sx_bU (a z : ByteArray) : Bool := sx_lU a.data.toList z.data.toList
theorem sx_bU_ok {a z : ByteArray} (h : sx_bU a z = true) : a = z := by
  have := sx_lU_ok h
  obtain ⟨⟨a⟩⟩ := a
  obtain ⟨⟨z⟩⟩ := z
  have : a = z := this
  rw [this]
/-- a row of a method's code -/
def sx_wq (w : Cond) (q : sx_M) : Bool := match w with
  | .code n c l r => decide (q.2.2.2.2 = []) && (decide (n = q.1) && (decide (l = q.2.2.1) && (decide (r = q.2.2.2.1) && sx_bU c q.2.1)))
  | .codeWith n c l r hs => decide (q.2.2.2.2 ≠ []) && (decide (n = q.1) && (decide (l = q.2.2.1) && (decide (r = q.2.2.2.1) && (decide (hs = q.2.2.2.2) && sx_bU c q.2.1))))
  | _ => false
def sx_cq (q : sx_M) (w : Cond) : Prop := (q.2.2.2.2 = [] ∧ w = .code q.1 q.2.1 q.2.2.1 q.2.2.2.1) ∨ (q.2.2.2.2 ≠ [] ∧ w = .codeWith q.1 q.2.1 q.2.2.1 q.2.2.2.1 q.2.2.2.2)
theorem sx_wq_ok {w : Cond} {q : sx_M} (h : sx_wq w q = true) : sx_cq q w ∧ goodWord w = true := by
  unfold sx_wq at h
  split at h
  · simp only [Bool.and_eq_true, decide_eq_true_eq] at h
    obtain ⟨h1, rfl, rfl, rfl, h2⟩ := h
    exact ⟨Or.inl ⟨h1, by rw [sx_bU_ok h2]⟩, rfl⟩
  · simp only [Bool.and_eq_true, decide_eq_true_eq] at h
    obtain ⟨h1, rfl, rfl, rfl, rfl, h2⟩ := h
    exact ⟨Or.inr ⟨h1, by rw [sx_bU_ok h2]⟩, rfl⟩
  · cases h
def sx_pq : List Cond → List Nat → List Nat → Bool
  | _, [], [] => true
  | l, g :: gs, mi :: ms => match l.drop g with
    | a :: l' => sx_oa (sx_ms[mi]?) (fun q => sx_wq a q) && sx_pq l' gs ms
    | [] => false
  | _, _, _ => false
theorem sx_pq_ok : ∀ {gs ms : List Nat} {l : List Cond}, sx_pq l gs ms = true → ∀ mi ∈ ms, ∃ q w, sx_ms[mi]? = some q ∧ w ∈ l ∧ sx_cq q w ∧ goodWord w = true
  | [], [], l, _, w, hw => by cases hw
  | [], _ :: _, l, h, _, _ => by simp [sx_pq] at h
  | _ :: _, [], l, h, _, _ => by simp [sx_pq] at h
  | g :: gs, mj :: ms, l, h, mi, hv => by
    unfold sx_pq at h
    cases hd : l.drop g with
    | nil => rw [hd] at h; cases h
    | cons a l' =>
      rw [hd] at h
      simp only [Bool.and_eq_true] at h
      obtain ⟨h1, h2⟩ := h
      have hsub : ∀ x ∈ a :: l', x ∈ l := fun x hx => List.mem_of_mem_drop (hd ▸ hx)
      rcases List.mem_cons.mp hv with rfl | hv
      · obtain ⟨q, hq, h3⟩ := sx_oa_ok h1
        exact ⟨q, a, hq, hsub _ List.mem_cons_self, sx_wq_ok h3⟩
      · obtain ⟨q, w, q1, q2, q3⟩ := sx_pq_ok h2 mi hv
        exact ⟨q, w, q1, hsub _ (List.mem_cons_of_mem _ q2), q3⟩
theorem sx_z1212 : sx_pq lw_tbl sx_cdg sx_cdl = true := by decide +kernel
def sx_mC (mi : Nat) : Bool := match sx_ms[mi]? with
  | none => true
  | some q => if (sx_mt mi).1 = 0 then true else (decide (mi = 0) || sx_mw q (sx_mt mi).1 q.2.1.size) && (decide (sx_im (sx_mt mi).2 = q.2.2.1) && (plainFor q.1 && (decide (q.1.cls ≠ "java/lang/invoke/MethodHandle" ∧ q.1.cls ≠ "java/lang/invoke/VarHandle") && (sx_hB (sx_ihd (sx_mt mi).2) q && (decide (mi = 0) || (sx_nB mi q && sx_cdl.contains mi))))))
def sx_m0 (pc : Nat) : Bool := if sx_ft sx_c0 pc = 0 then true else sx_wd (x, code, maxLocals, ret, []) pc (sx_ft sx_c0 pc)
/-- bytes as one number, and each of them out of it -/
def sd_pk : List UInt8 → Nat
  | [] => 0
  | b :: l => b.toNat + 256 * sd_pk l
def sd_go : List UInt8 → Nat → Nat → Nat
  | [], a, _ => a
  | b :: l, a, w => cond (Nat.beq a w) (sd_go l (a + w * b.toNat) (w * 256)) (sd_go l (a + w * b.toNat) (w * 256))
theorem sd_go_eq : ∀ (l : List UInt8) (a w : Nat), sd_go l a w = a + w * sd_pk l
  | [], a, w => by
    show a = a + w * 0
    rw [Nat.mul_zero, Nat.add_zero]
  | b :: l, a, w => by
    have e : sd_go (b :: l) a w = sd_go l (a + w * b.toNat) (w * 256) := by
      show cond _ _ _ = _
      cases Nat.beq a w <;> rfl
    rw [e, sd_go_eq l]
    show _ = a + w * (b.toNat + 256 * sd_pk l)
    rw [Nat.mul_add, ← Nat.mul_assoc, Nat.add_assoc]
theorem sd_pk_get : ∀ (l : List UInt8) (p : Nat) (h : p < l.length), sd_pk l >>> (8 * p) % 256 = (l[p]).toNat
  | [], p, h => absurd h (Nat.not_lt_zero _)
  | b :: l, 0, h => by
    show (b.toNat + 256 * sd_pk l) >>> 0 % 256 = b.toNat
    have := b.toNat_lt
    rw [Nat.shiftRight_zero]
    omega
  | b :: l, p + 1, h => by
    show (b.toNat + 256 * sd_pk l) >>> (8 * (p + 1)) % 256 = (l[p]'(Nat.lt_of_succ_lt_succ h)).toNat
    rw [← sd_pk_get l p (Nat.lt_of_succ_lt_succ h)]
    have := b.toNat_lt
    have e : (b.toNat + 256 * sd_pk l) >>> 8 = sd_pk l := by
      have q : (b.toNat + 256 * sd_pk l) >>> 8 = (b.toNat + 256 * sd_pk l) / 256 := Nat.shiftRight_eq_div_pow _ 8
      omega
    rw [show 8 * (p + 1) = 8 + 8 * p by omega, Nat.shiftRight_add, e]
def sd_n8 (c : ByteArray) : Nat := sd_go c.data.toList 0 1
theorem sd_n8_get {c : ByteArray} {p : Nat} (h : p < c.size) : (c[p]).toNat = sd_n8 c >>> (8 * p) % 256 := by
  obtain ⟨⟨l⟩⟩ := c
  have h2 : p < l.length := h
  show (l[p]'h2).toNat = sd_go l 0 1 >>> (8 * p) % 256
  rw [sd_go_eq, Nat.zero_add, Nat.one_mul]
  exact (sd_pk_get l p h2).symm
def sd_V8 (c : ByteArray) (pc : Nat) : Nat := sd_n8 c >>> (8 * pc)
section sd_FD
variable {c : ByteArray} {p pc n k a : Nat} {z : Int}
theorem sd_V8_0 (h : pc < c.size) : (c[pc]).toNat = sd_V8 c pc % 256 := sd_n8_get h
theorem sd_V8_1 (h : pc + 1 < c.size) : (c[pc + 1]).toNat = sd_V8 c pc / 256 % 256 := by
  have q : sd_V8 c pc >>> 8 = sd_V8 c pc / 256 := Nat.shiftRight_eq_div_pow _ 8
  rw [sd_n8_get h, show 8 * (pc + 1) = 8 * pc + 8 by omega, Nat.shiftRight_add, ← q]
  rfl
theorem sd_V8_2 (h : pc + 1 + 1 < c.size) : (c[pc + 1 + 1]).toNat = sd_V8 c pc / 65536 % 256 := by
  have q : sd_V8 c pc >>> 16 = sd_V8 c pc / 65536 := Nat.shiftRight_eq_div_pow _ 16
  rw [sd_n8_get h, show 8 * (pc + 1 + 1) = 8 * pc + 16 by omega, Nat.shiftRight_add, ← q]
  rfl
theorem sd_rb {α β : Type} (r : Decoder α) (K : α → Decoder β) {p' : Nat} {x : α} (h : r c p = .ok (x, p')) : (r >>= K) c p = K x c p' := by
  have e : (r >>= K) c p = Except.bind (r c p) (fun q => match q with | (x, s) => K x c s) := rfl
  rw [e, h]
  rfl
theorem sd_u1r (h : p < c.size) : (Reader.u1 : Decoder Nat) c p = .ok ((c[p]).toNat, p + 1) := by
  have e : (Reader.u1 : Decoder Nat) c p = (dite (p < c.size) (fun h => (do set (p + 1); pure (c[p]).toNat : Decoder Nat)) (fun _ => (throw (HasTruncated.truncated p) : Decoder Nat))) c p := rfl
  rw [e, dif_pos h]
  rfl
theorem sd_u2r (h : p < c.size) (h2 : p + 1 < c.size) : (Reader.u2 : Decoder Nat) c p = .ok ((c[p]).toNat * 256 + (c[p + 1]).toNat, p + 1 + 1) :=
  (sd_rb (c := c) (p := p) (Reader.u1 : Decoder Nat) (fun hi => Reader.u1 >>= fun lo => pure (hi * 256 + lo)) (sd_u1r h)).trans ((sd_rb (c := c) (p := p + 1) (Reader.u1 : Decoder Nat) (fun lo => pure ((c[p]).toNat * 256 + lo)) (sd_u1r h2)).trans rfl)
theorem sd_s1r (h : p < c.size) : (Reader.s1 : Decoder Int) c p = .ok (Reader.signed 8 (c[p]).toNat, p + 1) := by
  have e : (Reader.s1 : Decoder Int) c p = Except.bind ((Reader.u1 : Decoder Nat) c p) (fun q => match q with | (x, s) => .ok (Reader.signed 8 x, s)) := rfl
  rw [e, sd_u1r h]
  rfl
theorem sd_s2r (h : p < c.size) (h2 : p + 1 < c.size) : (Reader.s2 : Decoder Int) c p = .ok (Reader.signed 16 ((c[p]).toNat * 256 + (c[p + 1]).toNat), p + 1 + 1) := by
  have e : (Reader.s2 : Decoder Int) c p = Except.bind ((Reader.u2 : Decoder Nat) c p) (fun q => match q with | (x, s) => .ok (Reader.signed 16 x, s)) := rfl
  rw [e, sd_u2r h h2]
  rfl
theorem sd_dec {i : Instr} {p' : Nat} (h : Decoder.instr pc c pc = .ok (i, p')) : decode c pc = .ok (i, p' - pc) := by
  have e : decode c pc = Except.bind (Decoder.instr pc c pc) (fun q => match q with | (i, s) => .ok (i, s - pc)) := rfl
  rw [e, h]
  rfl
theorem sd_op {K : Nat → Decoder Instr} (hK : Decoder.instr pc = Reader.u1 >>= K) (h : pc < c.size) (e : (c[pc]).toNat = k) : Decoder.instr pc c pc = K k c (pc + 1) := by
  rw [hK, sd_rb _ _ (sd_u1r h), e]
def sd_h1 (V sz pc n k : Nat) : Bool := Nat.beq n 1 && (Nat.ble (pc + 1) sz && Nat.beq (V % 256) k)
def sd_h2 (V sz pc n k : Nat) : Bool := Nat.beq n 2 && (Nat.ble (pc + 2) sz && Nat.beq (V % 256) k)
def sd_h3 (V sz pc n k : Nat) : Bool := Nat.beq n 3 && (Nat.ble (pc + 3) sz && Nat.beq (V % 256) k)
theorem sd_hn {m V sz : Nat} (h : (Nat.beq n m && (Nat.ble (pc + m) sz && Nat.beq (V % 256) k)) = true) : n = m ∧ pc + m ≤ sz ∧ V % 256 = k := by
  rw [Bool.and_eq_true, Bool.and_eq_true] at h
  exact ⟨Nat.eq_of_beq_eq_true h.1, Nat.le_of_ble_eq_true h.2.1, Nat.eq_of_beq_eq_true h.2.2⟩
theorem sd_f1 {I : Instr} (hI : ∀ (h : pc < c.size) (_ : (c[pc]).toNat = k), Decoder.instr pc c pc = .ok (I, pc + 1)) (h : sd_h1 (sd_V8 c pc) c.size pc n k = true) : decode c pc = .ok (I, n) := by
  obtain ⟨rfl, h2, h3⟩ := sd_hn (m := 1) h
  have hp : pc < c.size := h2
  rw [sd_dec (hI hp (by rw [sd_V8_0 hp]; exact h3)), show pc + 1 - pc = 1 by omega]
theorem sd_f2 {F : Nat → Instr} (hI : ∀ (h : pc < c.size) (_ : (c[pc]).toNat = k), Decoder.instr pc c pc = (Reader.u1 >>= fun x => pure (F x) : Decoder Instr) c (pc + 1)) (h : (sd_h2 (sd_V8 c pc) c.size pc n k && Nat.beq (sd_V8 c pc / 256 % 256) a) = true) : decode c pc = .ok (F a, n) := by
  rw [Bool.and_eq_true] at h
  obtain ⟨h, ha⟩ := h
  obtain ⟨rfl, h2, h3⟩ := sd_hn (m := 2) h
  have hp : pc < c.size := by omega
  have hp1 : pc + 1 < c.size := h2
  have e : Decoder.instr pc c pc = .ok (F a, pc + 1 + 1) := by
    rw [hI hp (by rw [sd_V8_0 hp]; exact h3), sd_rb _ _ (sd_u1r hp1), sd_V8_1 hp1, Nat.eq_of_beq_eq_true ha]
    rfl
  rw [sd_dec e, show pc + 1 + 1 - pc = 2 by omega]
theorem sd_f2s {F : Int → Instr} (hI : ∀ (h : pc < c.size) (_ : (c[pc]).toNat = k), Decoder.instr pc c pc = (Reader.s1 >>= fun x => pure (F x) : Decoder Instr) c (pc + 1)) (h : (sd_h2 (sd_V8 c pc) c.size pc n k && decide (Reader.signed 8 (sd_V8 c pc / 256 % 256) = z)) = true) : decode c pc = .ok (F z, n) := by
  rw [Bool.and_eq_true] at h
  obtain ⟨h, ha⟩ := h
  obtain ⟨rfl, h2, h3⟩ := sd_hn (m := 2) h
  have hp : pc < c.size := by omega
  have hp1 : pc + 1 < c.size := h2
  have e : Decoder.instr pc c pc = .ok (F z, pc + 1 + 1) := by
    rw [hI hp (by rw [sd_V8_0 hp]; exact h3), sd_rb _ _ (sd_s1r hp1), sd_V8_1 hp1, of_decide_eq_true ha]
    rfl
  rw [sd_dec e, show pc + 1 + 1 - pc = 2 by omega]
theorem sd_f3 {F : Nat → Instr} (hI : ∀ (h : pc < c.size) (_ : (c[pc]).toNat = k), Decoder.instr pc c pc = (Reader.u2 >>= fun x => pure (F x) : Decoder Instr) c (pc + 1)) (h : (sd_h3 (sd_V8 c pc) c.size pc n k && Nat.beq (sd_V8 c pc / 256 % 256 * 256 + sd_V8 c pc / 65536 % 256) a) = true) : decode c pc = .ok (F a, n) := by
  rw [Bool.and_eq_true] at h
  obtain ⟨h, ha⟩ := h
  obtain ⟨rfl, h2, h3⟩ := sd_hn (m := 3) h
  have hp : pc < c.size := by omega
  have hp1 : pc + 1 < c.size := by omega
  have hp2 : pc + 1 + 1 < c.size := h2
  have e : Decoder.instr pc c pc = .ok (F a, pc + 1 + 1 + 1) := by
    rw [hI hp (by rw [sd_V8_0 hp]; exact h3), sd_rb _ _ (sd_u2r hp1 hp2), sd_V8_1 hp1, sd_V8_2 hp2, Nat.eq_of_beq_eq_true ha]
    rfl
  rw [sd_dec e, show pc + 1 + 1 + 1 - pc = 3 by omega]
theorem sd_f3s {F : Int → Instr} (hI : ∀ (h : pc < c.size) (_ : (c[pc]).toNat = k), Decoder.instr pc c pc = (Reader.s2 >>= fun x => pure (F x) : Decoder Instr) c (pc + 1)) (h : (sd_h3 (sd_V8 c pc) c.size pc n k && decide (Reader.signed 16 (sd_V8 c pc / 256 % 256 * 256 + sd_V8 c pc / 65536 % 256) = z)) = true) : decode c pc = .ok (F z, n) := by
  rw [Bool.and_eq_true] at h
  obtain ⟨h, ha⟩ := h
  obtain ⟨rfl, h2, h3⟩ := sd_hn (m := 3) h
  have hp : pc < c.size := by omega
  have hp1 : pc + 1 < c.size := by omega
  have hp2 : pc + 1 + 1 < c.size := h2
  have e : Decoder.instr pc c pc = .ok (F z, pc + 1 + 1 + 1) := by
    rw [hI hp (by rw [sd_V8_0 hp]; exact h3), sd_rb _ _ (sd_s2r hp1 hp2), sd_V8_1 hp1, sd_V8_2 hp2, of_decide_eq_true ha]
    rfl
  rw [sd_dec e, show pc + 1 + 1 + 1 - pc = 3 by omega]
theorem sd_f3i {F : Nat → Int → Instr} (hI : ∀ (h : pc < c.size) (_ : (c[pc]).toNat = k), Decoder.instr pc c pc = (Reader.u1 >>= fun x => Reader.s1 >>= fun y => pure (F x y) : Decoder Instr) c (pc + 1)) (h : (sd_h3 (sd_V8 c pc) c.size pc n k && (Nat.beq (sd_V8 c pc / 256 % 256) a && decide (Reader.signed 8 (sd_V8 c pc / 65536 % 256) = z))) = true) : decode c pc = .ok (F a z, n) := by
  rw [Bool.and_eq_true, Bool.and_eq_true] at h
  obtain ⟨h, ha, hz⟩ := h
  obtain ⟨rfl, h2, h3⟩ := sd_hn (m := 3) h
  have hp : pc < c.size := by omega
  have hp1 : pc + 1 < c.size := by omega
  have hp2 : pc + 1 + 1 < c.size := h2
  have e : Decoder.instr pc c pc = .ok (F a z, pc + 1 + 1 + 1) := by
    rw [hI hp (by rw [sd_V8_0 hp]; exact h3), sd_rb _ _ (sd_u1r hp1), sd_V8_1 hp1, Nat.eq_of_beq_eq_true ha]
    show (Reader.s1 >>= fun y => pure (F a y) : Decoder Instr) c (pc + 1 + 1) = _
    rw [sd_rb _ _ (sd_s1r hp2), sd_V8_2 hp2, of_decide_eq_true hz]
    rfl
  rw [sd_dec e, show pc + 1 + 1 + 1 - pc = 3 by omega]
end sd_FD
/-- is this instruction there: by the bytes; else by the reading itself -/
def sd_dF (c : ByteArray) (pc : Nat) (i : Instr) (n : Nat) : Bool := match i with
  | .iadd => sd_h1 (sd_V8 c pc) c.size pc n 96
  | .ladd => sd_h1 (sd_V8 c pc) c.size pc n 97
  | .isub => sd_h1 (sd_V8 c pc) c.size pc n 100
  | .lsub => sd_h1 (sd_V8 c pc) c.size pc n 101
  | .imul => sd_h1 (sd_V8 c pc) c.size pc n 104
  | .lmul => sd_h1 (sd_V8 c pc) c.size pc n 105
  | .idiv => sd_h1 (sd_V8 c pc) c.size pc n 108
  | .ldiv => sd_h1 (sd_V8 c pc) c.size pc n 109
  | .irem => sd_h1 (sd_V8 c pc) c.size pc n 112
  | .ineg => sd_h1 (sd_V8 c pc) c.size pc n 116
  | .ishl => sd_h1 (sd_V8 c pc) c.size pc n 120
  | .ishr => sd_h1 (sd_V8 c pc) c.size pc n 122
  | .iushr => sd_h1 (sd_V8 c pc) c.size pc n 124
  | .iand => sd_h1 (sd_V8 c pc) c.size pc n 126
  | .ior => sd_h1 (sd_V8 c pc) c.size pc n 128
  | .ixor => sd_h1 (sd_V8 c pc) c.size pc n 130
  | .i2l => sd_h1 (sd_V8 c pc) c.size pc n 133
  | .l2i => sd_h1 (sd_V8 c pc) c.size pc n 136
  | .i2c => sd_h1 (sd_V8 c pc) c.size pc n 146
  | .lcmp => sd_h1 (sd_V8 c pc) c.size pc n 148
  | .iaload => sd_h1 (sd_V8 c pc) c.size pc n 46
  | .laload => sd_h1 (sd_V8 c pc) c.size pc n 47
  | .aaload => sd_h1 (sd_V8 c pc) c.size pc n 50
  | .baload => sd_h1 (sd_V8 c pc) c.size pc n 51
  | .iastore => sd_h1 (sd_V8 c pc) c.size pc n 79
  | .lastore => sd_h1 (sd_V8 c pc) c.size pc n 80
  | .aastore => sd_h1 (sd_V8 c pc) c.size pc n 83
  | .pop => sd_h1 (sd_V8 c pc) c.size pc n 87
  | .dup => sd_h1 (sd_V8 c pc) c.size pc n 89
  | .dup2 => sd_h1 (sd_V8 c pc) c.size pc n 92
  | .ireturn => sd_h1 (sd_V8 c pc) c.size pc n 172
  | .lreturn => sd_h1 (sd_V8 c pc) c.size pc n 173
  | .return_ => sd_h1 (sd_V8 c pc) c.size pc n 177
  | .arraylength => sd_h1 (sd_V8 c pc) c.size pc n 190
  | .athrow => sd_h1 (sd_V8 c pc) c.size pc n 191
  | .ldc a => sd_h2 (sd_V8 c pc) c.size pc n 18 && Nat.beq (sd_V8 c pc / 256 % 256) a
  | .iload a => sd_h2 (sd_V8 c pc) c.size pc n 21 && Nat.beq (sd_V8 c pc / 256 % 256) a
  | .lload a => sd_h2 (sd_V8 c pc) c.size pc n 22 && Nat.beq (sd_V8 c pc / 256 % 256) a
  | .aload a => sd_h2 (sd_V8 c pc) c.size pc n 25 && Nat.beq (sd_V8 c pc / 256 % 256) a
  | .istore a => sd_h2 (sd_V8 c pc) c.size pc n 54 && Nat.beq (sd_V8 c pc / 256 % 256) a
  | .lstore a => sd_h2 (sd_V8 c pc) c.size pc n 55 && Nat.beq (sd_V8 c pc / 256 % 256) a
  | .astore a => sd_h2 (sd_V8 c pc) c.size pc n 58 && Nat.beq (sd_V8 c pc / 256 % 256) a
  | .ldc_w a => sd_h3 (sd_V8 c pc) c.size pc n 19 && Nat.beq (sd_V8 c pc / 256 % 256 * 256 + sd_V8 c pc / 65536 % 256) a
  | .ldc2_w a => sd_h3 (sd_V8 c pc) c.size pc n 20 && Nat.beq (sd_V8 c pc / 256 % 256 * 256 + sd_V8 c pc / 65536 % 256) a
  | .getstatic a => sd_h3 (sd_V8 c pc) c.size pc n 178 && Nat.beq (sd_V8 c pc / 256 % 256 * 256 + sd_V8 c pc / 65536 % 256) a
  | .getfield a => sd_h3 (sd_V8 c pc) c.size pc n 180 && Nat.beq (sd_V8 c pc / 256 % 256 * 256 + sd_V8 c pc / 65536 % 256) a
  | .putfield a => sd_h3 (sd_V8 c pc) c.size pc n 181 && Nat.beq (sd_V8 c pc / 256 % 256 * 256 + sd_V8 c pc / 65536 % 256) a
  | .invokevirtual a => sd_h3 (sd_V8 c pc) c.size pc n 182 && Nat.beq (sd_V8 c pc / 256 % 256 * 256 + sd_V8 c pc / 65536 % 256) a
  | .invokespecial a => sd_h3 (sd_V8 c pc) c.size pc n 183 && Nat.beq (sd_V8 c pc / 256 % 256 * 256 + sd_V8 c pc / 65536 % 256) a
  | .invokestatic a => sd_h3 (sd_V8 c pc) c.size pc n 184 && Nat.beq (sd_V8 c pc / 256 % 256 * 256 + sd_V8 c pc / 65536 % 256) a
  | .new a => sd_h3 (sd_V8 c pc) c.size pc n 187 && Nat.beq (sd_V8 c pc / 256 % 256 * 256 + sd_V8 c pc / 65536 % 256) a
  | .anewarray a => sd_h3 (sd_V8 c pc) c.size pc n 189 && Nat.beq (sd_V8 c pc / 256 % 256 * 256 + sd_V8 c pc / 65536 % 256) a
  | .iload_n j => sd_h1 (sd_V8 c pc) c.size pc n (26 + j.val)
  | .lload_n j => sd_h1 (sd_V8 c pc) c.size pc n (30 + j.val)
  | .aload_n j => sd_h1 (sd_V8 c pc) c.size pc n (42 + j.val)
  | .istore_n j => sd_h1 (sd_V8 c pc) c.size pc n (59 + j.val)
  | .lstore_n j => sd_h1 (sd_V8 c pc) c.size pc n (63 + j.val)
  | .astore_n j => sd_h1 (sd_V8 c pc) c.size pc n (75 + j.val)
  | .bipush z => sd_h2 (sd_V8 c pc) c.size pc n 16 && decide (Reader.signed 8 (sd_V8 c pc / 256 % 256) = z)
  | .sipush z => sd_h3 (sd_V8 c pc) c.size pc n 17 && decide (Reader.signed 16 (sd_V8 c pc / 256 % 256 * 256 + sd_V8 c pc / 65536 % 256) = z)
  | .goto z => sd_h3 (sd_V8 c pc) c.size pc n 167 && decide (Reader.signed 16 (sd_V8 c pc / 256 % 256 * 256 + sd_V8 c pc / 65536 % 256) = z)
  | .iinc a z => sd_h3 (sd_V8 c pc) c.size pc n 132 && (Nat.beq (sd_V8 c pc / 256 % 256) a && decide (Reader.signed 8 (sd_V8 c pc / 65536 % 256) = z))
  | .ifCond k z => (match k with | .eq => sd_h3 (sd_V8 c pc) c.size pc n 153 | .ne => sd_h3 (sd_V8 c pc) c.size pc n 154 | .lt => sd_h3 (sd_V8 c pc) c.size pc n 155 | .ge => sd_h3 (sd_V8 c pc) c.size pc n 156 | .gt => sd_h3 (sd_V8 c pc) c.size pc n 157 | .le => sd_h3 (sd_V8 c pc) c.size pc n 158) && decide (Reader.signed 16 (sd_V8 c pc / 256 % 256 * 256 + sd_V8 c pc / 65536 % 256) = z)
  | .if_icmp k z => (match k with | .eq => sd_h3 (sd_V8 c pc) c.size pc n 159 | .ne => sd_h3 (sd_V8 c pc) c.size pc n 160 | .lt => sd_h3 (sd_V8 c pc) c.size pc n 161 | .ge => sd_h3 (sd_V8 c pc) c.size pc n 162 | .gt => sd_h3 (sd_V8 c pc) c.size pc n 163 | .le => sd_h3 (sd_V8 c pc) c.size pc n 164) && decide (Reader.signed 16 (sd_V8 c pc / 256 % 256 * 256 + sd_V8 c pc / 65536 % 256) = z)
  | .iconst z => (decide (z = -1) && sd_h1 (sd_V8 c pc) c.size pc n 2) || (decide (z = 0) && sd_h1 (sd_V8 c pc) c.size pc n 3) || (decide (z = 1) && sd_h1 (sd_V8 c pc) c.size pc n 4) || (decide (z = 2) && sd_h1 (sd_V8 c pc) c.size pc n 5) || (decide (z = 3) && sd_h1 (sd_V8 c pc) c.size pc n 6) || (decide (z = 4) && sd_h1 (sd_V8 c pc) c.size pc n 7) || (decide (z = 5) && sd_h1 (sd_V8 c pc) c.size pc n 8)
  | .lconst j => sd_h1 (sd_V8 c pc) c.size pc n (9 + j.val)
  | i => decide (decode c pc = .ok (i, n))
theorem sd_dF_ok {c : ByteArray} {pc n : Nat} {i : Instr} (h : sd_dF c pc i n = true) : decode c pc = .ok (i, n) := by
  cases i with
  | iadd => exact sd_f1 (k := 96) (fun h e => (show _ = _ from (by have e1 := sd_op (c := c) (pc := pc) rfl h e; exact e1.trans rfl))) h
  | ladd => exact sd_f1 (k := 97) (fun h e => (show _ = _ from (by have e1 := sd_op (c := c) (pc := pc) rfl h e; exact e1.trans rfl))) h
  | isub => exact sd_f1 (k := 100) (fun h e => (show _ = _ from (by have e1 := sd_op (c := c) (pc := pc) rfl h e; exact e1.trans rfl))) h
  | lsub => exact sd_f1 (k := 101) (fun h e => (show _ = _ from (by have e1 := sd_op (c := c) (pc := pc) rfl h e; exact e1.trans rfl))) h
  | imul => exact sd_f1 (k := 104) (fun h e => (show _ = _ from (by have e1 := sd_op (c := c) (pc := pc) rfl h e; exact e1.trans rfl))) h
  | lmul => exact sd_f1 (k := 105) (fun h e => (show _ = _ from (by have e1 := sd_op (c := c) (pc := pc) rfl h e; exact e1.trans rfl))) h
  | idiv => exact sd_f1 (k := 108) (fun h e => (show _ = _ from (by have e1 := sd_op (c := c) (pc := pc) rfl h e; exact e1.trans rfl))) h
  | ldiv => exact sd_f1 (k := 109) (fun h e => (show _ = _ from (by have e1 := sd_op (c := c) (pc := pc) rfl h e; exact e1.trans rfl))) h
  | irem => exact sd_f1 (k := 112) (fun h e => (show _ = _ from (by have e1 := sd_op (c := c) (pc := pc) rfl h e; exact e1.trans rfl))) h
  | ineg => exact sd_f1 (k := 116) (fun h e => (show _ = _ from (by have e1 := sd_op (c := c) (pc := pc) rfl h e; exact e1.trans rfl))) h
  | ishl => exact sd_f1 (k := 120) (fun h e => (show _ = _ from (by have e1 := sd_op (c := c) (pc := pc) rfl h e; exact e1.trans rfl))) h
  | ishr => exact sd_f1 (k := 122) (fun h e => (show _ = _ from (by have e1 := sd_op (c := c) (pc := pc) rfl h e; exact e1.trans rfl))) h
  | iushr => exact sd_f1 (k := 124) (fun h e => (show _ = _ from (by have e1 := sd_op (c := c) (pc := pc) rfl h e; exact e1.trans rfl))) h
  | iand => exact sd_f1 (k := 126) (fun h e => (show _ = _ from (by have e1 := sd_op (c := c) (pc := pc) rfl h e; exact e1.trans rfl))) h
  | ior => exact sd_f1 (k := 128) (fun h e => (show _ = _ from (by have e1 := sd_op (c := c) (pc := pc) rfl h e; exact e1.trans rfl))) h
  | ixor => exact sd_f1 (k := 130) (fun h e => (show _ = _ from (by have e1 := sd_op (c := c) (pc := pc) rfl h e; exact e1.trans rfl))) h
  | i2l => exact sd_f1 (k := 133) (fun h e => (show _ = _ from (by have e1 := sd_op (c := c) (pc := pc) rfl h e; exact e1.trans rfl))) h
  | l2i => exact sd_f1 (k := 136) (fun h e => (show _ = _ from (by have e1 := sd_op (c := c) (pc := pc) rfl h e; exact e1.trans rfl))) h
  | i2c => exact sd_f1 (k := 146) (fun h e => (show _ = _ from (by have e1 := sd_op (c := c) (pc := pc) rfl h e; exact e1.trans rfl))) h
  | lcmp => exact sd_f1 (k := 148) (fun h e => (show _ = _ from (by have e1 := sd_op (c := c) (pc := pc) rfl h e; exact e1.trans rfl))) h
  | iaload => exact sd_f1 (k := 46) (fun h e => (show _ = _ from (by have e1 := sd_op (c := c) (pc := pc) rfl h e; exact e1.trans rfl))) h
  | laload => exact sd_f1 (k := 47) (fun h e => (show _ = _ from (by have e1 := sd_op (c := c) (pc := pc) rfl h e; exact e1.trans rfl))) h
  | aaload => exact sd_f1 (k := 50) (fun h e => (show _ = _ from (by have e1 := sd_op (c := c) (pc := pc) rfl h e; exact e1.trans rfl))) h
  | baload => exact sd_f1 (k := 51) (fun h e => (show _ = _ from (by have e1 := sd_op (c := c) (pc := pc) rfl h e; exact e1.trans rfl))) h
  | iastore => exact sd_f1 (k := 79) (fun h e => (show _ = _ from (by have e1 := sd_op (c := c) (pc := pc) rfl h e; exact e1.trans rfl))) h
  | lastore => exact sd_f1 (k := 80) (fun h e => (show _ = _ from (by have e1 := sd_op (c := c) (pc := pc) rfl h e; exact e1.trans rfl))) h
  | aastore => exact sd_f1 (k := 83) (fun h e => (show _ = _ from (by have e1 := sd_op (c := c) (pc := pc) rfl h e; exact e1.trans rfl))) h
  | pop => exact sd_f1 (k := 87) (fun h e => (show _ = _ from (by have e1 := sd_op (c := c) (pc := pc) rfl h e; exact e1.trans rfl))) h
  | dup => exact sd_f1 (k := 89) (fun h e => (show _ = _ from (by have e1 := sd_op (c := c) (pc := pc) rfl h e; exact e1.trans rfl))) h
  | dup2 => exact sd_f1 (k := 92) (fun h e => (show _ = _ from (by have e1 := sd_op (c := c) (pc := pc) rfl h e; exact e1.trans rfl))) h
  | ireturn => exact sd_f1 (k := 172) (fun h e => (show _ = _ from (by have e1 := sd_op (c := c) (pc := pc) rfl h e; exact e1.trans rfl))) h
  | lreturn => exact sd_f1 (k := 173) (fun h e => (show _ = _ from (by have e1 := sd_op (c := c) (pc := pc) rfl h e; exact e1.trans rfl))) h
  | return_ => exact sd_f1 (k := 177) (fun h e => (show _ = _ from (by have e1 := sd_op (c := c) (pc := pc) rfl h e; exact e1.trans rfl))) h
  | arraylength => exact sd_f1 (k := 190) (fun h e => (show _ = _ from (by have e1 := sd_op (c := c) (pc := pc) rfl h e; exact e1.trans rfl))) h
  | athrow => exact sd_f1 (k := 191) (fun h e => (show _ = _ from (by have e1 := sd_op (c := c) (pc := pc) rfl h e; exact e1.trans rfl))) h
  | ldc a => exact sd_f2 (F := .ldc) (k := 18) (fun h e => (show _ = _ from (by have e1 := sd_op (c := c) (pc := pc) rfl h e; exact e1.trans rfl))) h
  | iload a => exact sd_f2 (F := .iload) (k := 21) (fun h e => (show _ = _ from (by have e1 := sd_op (c := c) (pc := pc) rfl h e; exact e1.trans rfl))) h
  | lload a => exact sd_f2 (F := .lload) (k := 22) (fun h e => (show _ = _ from (by have e1 := sd_op (c := c) (pc := pc) rfl h e; exact e1.trans rfl))) h
  | aload a => exact sd_f2 (F := .aload) (k := 25) (fun h e => (show _ = _ from (by have e1 := sd_op (c := c) (pc := pc) rfl h e; exact e1.trans rfl))) h
  | istore a => exact sd_f2 (F := .istore) (k := 54) (fun h e => (show _ = _ from (by have e1 := sd_op (c := c) (pc := pc) rfl h e; exact e1.trans rfl))) h
  | lstore a => exact sd_f2 (F := .lstore) (k := 55) (fun h e => (show _ = _ from (by have e1 := sd_op (c := c) (pc := pc) rfl h e; exact e1.trans rfl))) h
  | astore a => exact sd_f2 (F := .astore) (k := 58) (fun h e => (show _ = _ from (by have e1 := sd_op (c := c) (pc := pc) rfl h e; exact e1.trans rfl))) h
  | ldc_w a => exact sd_f3 (F := .ldc_w) (k := 19) (fun h e => (show _ = _ from (by have e1 := sd_op (c := c) (pc := pc) rfl h e; exact e1.trans rfl))) h
  | ldc2_w a => exact sd_f3 (F := .ldc2_w) (k := 20) (fun h e => (show _ = _ from (by have e1 := sd_op (c := c) (pc := pc) rfl h e; exact e1.trans rfl))) h
  | getstatic a => exact sd_f3 (F := .getstatic) (k := 178) (fun h e => (show _ = _ from (by have e1 := sd_op (c := c) (pc := pc) rfl h e; exact e1.trans rfl))) h
  | getfield a => exact sd_f3 (F := .getfield) (k := 180) (fun h e => (show _ = _ from (by have e1 := sd_op (c := c) (pc := pc) rfl h e; exact e1.trans rfl))) h
  | putfield a => exact sd_f3 (F := .putfield) (k := 181) (fun h e => (show _ = _ from (by have e1 := sd_op (c := c) (pc := pc) rfl h e; exact e1.trans rfl))) h
  | invokevirtual a => exact sd_f3 (F := .invokevirtual) (k := 182) (fun h e => (show _ = _ from (by have e1 := sd_op (c := c) (pc := pc) rfl h e; exact e1.trans rfl))) h
  | invokespecial a => exact sd_f3 (F := .invokespecial) (k := 183) (fun h e => (show _ = _ from (by have e1 := sd_op (c := c) (pc := pc) rfl h e; exact e1.trans rfl))) h
  | invokestatic a => exact sd_f3 (F := .invokestatic) (k := 184) (fun h e => (show _ = _ from (by have e1 := sd_op (c := c) (pc := pc) rfl h e; exact e1.trans rfl))) h
  | new a => exact sd_f3 (F := .new) (k := 187) (fun h e => (show _ = _ from (by have e1 := sd_op (c := c) (pc := pc) rfl h e; exact e1.trans rfl))) h
  | anewarray a => exact sd_f3 (F := .anewarray) (k := 189) (fun h e => (show _ = _ from (by have e1 := sd_op (c := c) (pc := pc) rfl h e; exact e1.trans rfl))) h
  | iload_n j =>
    obtain ⟨j, hj⟩ := j
    rcases (by omega : j = 0 ∨ j = 1 ∨ j = 2 ∨ j = 3) with rfl | rfl | rfl | rfl
    · exact sd_f1 (k := 26) (fun h e => (show _ = _ from (by have e1 := sd_op (c := c) (pc := pc) rfl h e; exact e1.trans rfl))) h
    · exact sd_f1 (k := 27) (fun h e => (show _ = _ from (by have e1 := sd_op (c := c) (pc := pc) rfl h e; exact e1.trans rfl))) h
    · exact sd_f1 (k := 28) (fun h e => (show _ = _ from (by have e1 := sd_op (c := c) (pc := pc) rfl h e; exact e1.trans rfl))) h
    · exact sd_f1 (k := 29) (fun h e => (show _ = _ from (by have e1 := sd_op (c := c) (pc := pc) rfl h e; exact e1.trans rfl))) h
  | lload_n j =>
    obtain ⟨j, hj⟩ := j
    rcases (by omega : j = 0 ∨ j = 1 ∨ j = 2 ∨ j = 3) with rfl | rfl | rfl | rfl
    · exact sd_f1 (k := 30) (fun h e => (show _ = _ from (by have e1 := sd_op (c := c) (pc := pc) rfl h e; exact e1.trans rfl))) h
    · exact sd_f1 (k := 31) (fun h e => (show _ = _ from (by have e1 := sd_op (c := c) (pc := pc) rfl h e; exact e1.trans rfl))) h
    · exact sd_f1 (k := 32) (fun h e => (show _ = _ from (by have e1 := sd_op (c := c) (pc := pc) rfl h e; exact e1.trans rfl))) h
    · exact sd_f1 (k := 33) (fun h e => (show _ = _ from (by have e1 := sd_op (c := c) (pc := pc) rfl h e; exact e1.trans rfl))) h
  | aload_n j =>
    obtain ⟨j, hj⟩ := j
    rcases (by omega : j = 0 ∨ j = 1 ∨ j = 2 ∨ j = 3) with rfl | rfl | rfl | rfl
    · exact sd_f1 (k := 42) (fun h e => (show _ = _ from (by have e1 := sd_op (c := c) (pc := pc) rfl h e; exact e1.trans rfl))) h
    · exact sd_f1 (k := 43) (fun h e => (show _ = _ from (by have e1 := sd_op (c := c) (pc := pc) rfl h e; exact e1.trans rfl))) h
    · exact sd_f1 (k := 44) (fun h e => (show _ = _ from (by have e1 := sd_op (c := c) (pc := pc) rfl h e; exact e1.trans rfl))) h
    · exact sd_f1 (k := 45) (fun h e => (show _ = _ from (by have e1 := sd_op (c := c) (pc := pc) rfl h e; exact e1.trans rfl))) h
  | istore_n j =>
    obtain ⟨j, hj⟩ := j
    rcases (by omega : j = 0 ∨ j = 1 ∨ j = 2 ∨ j = 3) with rfl | rfl | rfl | rfl
    · exact sd_f1 (k := 59) (fun h e => (show _ = _ from (by have e1 := sd_op (c := c) (pc := pc) rfl h e; exact e1.trans rfl))) h
    · exact sd_f1 (k := 60) (fun h e => (show _ = _ from (by have e1 := sd_op (c := c) (pc := pc) rfl h e; exact e1.trans rfl))) h
    · exact sd_f1 (k := 61) (fun h e => (show _ = _ from (by have e1 := sd_op (c := c) (pc := pc) rfl h e; exact e1.trans rfl))) h
    · exact sd_f1 (k := 62) (fun h e => (show _ = _ from (by have e1 := sd_op (c := c) (pc := pc) rfl h e; exact e1.trans rfl))) h
  | lstore_n j =>
    obtain ⟨j, hj⟩ := j
    rcases (by omega : j = 0 ∨ j = 1 ∨ j = 2 ∨ j = 3) with rfl | rfl | rfl | rfl
    · exact sd_f1 (k := 63) (fun h e => (show _ = _ from (by have e1 := sd_op (c := c) (pc := pc) rfl h e; exact e1.trans rfl))) h
    · exact sd_f1 (k := 64) (fun h e => (show _ = _ from (by have e1 := sd_op (c := c) (pc := pc) rfl h e; exact e1.trans rfl))) h
    · exact sd_f1 (k := 65) (fun h e => (show _ = _ from (by have e1 := sd_op (c := c) (pc := pc) rfl h e; exact e1.trans rfl))) h
    · exact sd_f1 (k := 66) (fun h e => (show _ = _ from (by have e1 := sd_op (c := c) (pc := pc) rfl h e; exact e1.trans rfl))) h
  | astore_n j =>
    obtain ⟨j, hj⟩ := j
    rcases (by omega : j = 0 ∨ j = 1 ∨ j = 2 ∨ j = 3) with rfl | rfl | rfl | rfl
    · exact sd_f1 (k := 75) (fun h e => (show _ = _ from (by have e1 := sd_op (c := c) (pc := pc) rfl h e; exact e1.trans rfl))) h
    · exact sd_f1 (k := 76) (fun h e => (show _ = _ from (by have e1 := sd_op (c := c) (pc := pc) rfl h e; exact e1.trans rfl))) h
    · exact sd_f1 (k := 77) (fun h e => (show _ = _ from (by have e1 := sd_op (c := c) (pc := pc) rfl h e; exact e1.trans rfl))) h
    · exact sd_f1 (k := 78) (fun h e => (show _ = _ from (by have e1 := sd_op (c := c) (pc := pc) rfl h e; exact e1.trans rfl))) h
  | bipush z => exact sd_f2s (F := .bipush) (k := 16) (fun h e => (show _ = _ from (by have e1 := sd_op (c := c) (pc := pc) rfl h e; exact e1.trans rfl))) h
  | sipush z => exact sd_f3s (F := .sipush) (k := 17) (fun h e => (show _ = _ from (by have e1 := sd_op (c := c) (pc := pc) rfl h e; exact e1.trans rfl))) h
  | goto z => exact sd_f3s (F := .goto) (k := 167) (fun h e => (show _ = _ from (by have e1 := sd_op (c := c) (pc := pc) rfl h e; exact e1.trans rfl))) h
  | iinc a z => exact sd_f3i (F := .iinc) (k := 132) (fun h e => (show _ = _ from (by have e1 := sd_op (c := c) (pc := pc) rfl h e; exact e1.trans rfl))) h
  | ifCond k z =>
    cases k with
    | eq => exact sd_f3s (F := .ifCond .eq) (k := 153) (fun h e => (show _ = _ from (by have e1 := sd_op (c := c) (pc := pc) rfl h e; exact e1.trans rfl))) h
    | ne => exact sd_f3s (F := .ifCond .ne) (k := 154) (fun h e => (show _ = _ from (by have e1 := sd_op (c := c) (pc := pc) rfl h e; exact e1.trans rfl))) h
    | lt => exact sd_f3s (F := .ifCond .lt) (k := 155) (fun h e => (show _ = _ from (by have e1 := sd_op (c := c) (pc := pc) rfl h e; exact e1.trans rfl))) h
    | ge => exact sd_f3s (F := .ifCond .ge) (k := 156) (fun h e => (show _ = _ from (by have e1 := sd_op (c := c) (pc := pc) rfl h e; exact e1.trans rfl))) h
    | gt => exact sd_f3s (F := .ifCond .gt) (k := 157) (fun h e => (show _ = _ from (by have e1 := sd_op (c := c) (pc := pc) rfl h e; exact e1.trans rfl))) h
    | le => exact sd_f3s (F := .ifCond .le) (k := 158) (fun h e => (show _ = _ from (by have e1 := sd_op (c := c) (pc := pc) rfl h e; exact e1.trans rfl))) h
  | if_icmp k z =>
    cases k with
    | eq => exact sd_f3s (F := .if_icmp .eq) (k := 159) (fun h e => (show _ = _ from (by have e1 := sd_op (c := c) (pc := pc) rfl h e; exact e1.trans rfl))) h
    | ne => exact sd_f3s (F := .if_icmp .ne) (k := 160) (fun h e => (show _ = _ from (by have e1 := sd_op (c := c) (pc := pc) rfl h e; exact e1.trans rfl))) h
    | lt => exact sd_f3s (F := .if_icmp .lt) (k := 161) (fun h e => (show _ = _ from (by have e1 := sd_op (c := c) (pc := pc) rfl h e; exact e1.trans rfl))) h
    | ge => exact sd_f3s (F := .if_icmp .ge) (k := 162) (fun h e => (show _ = _ from (by have e1 := sd_op (c := c) (pc := pc) rfl h e; exact e1.trans rfl))) h
    | gt => exact sd_f3s (F := .if_icmp .gt) (k := 163) (fun h e => (show _ = _ from (by have e1 := sd_op (c := c) (pc := pc) rfl h e; exact e1.trans rfl))) h
    | le => exact sd_f3s (F := .if_icmp .le) (k := 164) (fun h e => (show _ = _ from (by have e1 := sd_op (c := c) (pc := pc) rfl h e; exact e1.trans rfl))) h
  | iconst z =>
    have h9 : ((decide (z = -1) && sd_h1 (sd_V8 c pc) c.size pc n 2) || (decide (z = 0) && sd_h1 (sd_V8 c pc) c.size pc n 3) || (decide (z = 1) && sd_h1 (sd_V8 c pc) c.size pc n 4) || (decide (z = 2) && sd_h1 (sd_V8 c pc) c.size pc n 5) || (decide (z = 3) && sd_h1 (sd_V8 c pc) c.size pc n 6) || (decide (z = 4) && sd_h1 (sd_V8 c pc) c.size pc n 7) || (decide (z = 5) && sd_h1 (sd_V8 c pc) c.size pc n 8)) = true := h
    clear h
    simp only [Bool.or_eq_true, Bool.and_eq_true, decide_eq_true_eq] at h9
    rcases h9 with ((((((⟨rfl, h⟩ | ⟨rfl, h⟩) | ⟨rfl, h⟩) | ⟨rfl, h⟩) | ⟨rfl, h⟩) | ⟨rfl, h⟩) | ⟨rfl, h⟩)
    · exact sd_f1 (k := 2) (fun h e => (show _ = _ from (by have e1 := sd_op (c := c) (pc := pc) rfl h e; exact e1.trans rfl))) h
    · exact sd_f1 (k := 3) (fun h e => (show _ = _ from (by have e1 := sd_op (c := c) (pc := pc) rfl h e; exact e1.trans rfl))) h
    · exact sd_f1 (k := 4) (fun h e => (show _ = _ from (by have e1 := sd_op (c := c) (pc := pc) rfl h e; exact e1.trans rfl))) h
    · exact sd_f1 (k := 5) (fun h e => (show _ = _ from (by have e1 := sd_op (c := c) (pc := pc) rfl h e; exact e1.trans rfl))) h
    · exact sd_f1 (k := 6) (fun h e => (show _ = _ from (by have e1 := sd_op (c := c) (pc := pc) rfl h e; exact e1.trans rfl))) h
    · exact sd_f1 (k := 7) (fun h e => (show _ = _ from (by have e1 := sd_op (c := c) (pc := pc) rfl h e; exact e1.trans rfl))) h
    · exact sd_f1 (k := 8) (fun h e => (show _ = _ from (by have e1 := sd_op (c := c) (pc := pc) rfl h e; exact e1.trans rfl))) h
  | lconst j =>
    obtain ⟨j, hj⟩ := j
    rcases (by omega : j = 0 ∨ j = 1) with rfl | rfl
    · exact sd_f1 (k := 9) (fun h e => (show _ = _ from (by have e1 := sd_op (c := c) (pc := pc) rfl h e; exact e1.trans rfl))) h
    · exact sd_f1 (k := 10) (fun h e => (show _ = _ from (by have e1 := sd_op (c := c) (pc := pc) rfl h e; exact e1.trans rfl))) h
  | _ => exact of_decide_eq_true h
section SFWd
variable (D : sx_M → Nat → Instr → Nat → Bool) (E : (β : Type) → String × β → MethodName → Bool) (N : (α : Type) → List α → Nat → Option α) (q : sx_M) (pc w : Nat)
def sf_k1 : Bool :=
  let z := Int32.ofNat (sx_wc w / 8)
  if sx_wb w = 0 then decide (sx_wa w = 1) && (decide (sx_wc w % 8 = 0) && D q pc (.iconst z.toInt) 1)
  else if sx_wb w = 1 then decide (sx_wa w = 2) && (decide (sx_wc w % 8 = 0) && (decide ((Int8.ofInt z.toInt).toInt32 = z) && D q pc (.bipush z.toInt) 2))
  else if sx_wb w = 2 then decide (sx_wa w = 3) && (decide (sx_wc w % 8 = 0) && (decide ((Int16.ofInt z.toInt).toInt32 = z) && D q pc (.sipush z.toInt) 3))
  else if sx_wb w = 3 then decide (sx_wa w = 1) && ((decide (sx_wc w = 4) && D q pc (.lconst 0) 1) || (decide (sx_wc w = 12) && D q pc (.lconst 1) 1))
  else if (sx_wb w - 4) % 3 = 0 then decide (sx_wa w = 2) && (decide (sx_wc w % 8 = 0) && sx_oa (N _ sx_cn ((sx_wb w - 4) / 3)) (fun t => E _ t q.1 && (decide (t.2.2 = z) && D q pc (.ldc t.2.1) 2)))
  else if (sx_wb w - 4) % 3 = 1 then decide (sx_wa w = 3) && (decide (sx_wc w % 8 = 0) && sx_oa (N _ sx_cn ((sx_wb w - 4) / 3)) (fun t => E _ t q.1 && (decide (t.2.2 = z) && D q pc (.ldc_w t.2.1) 3)))
  else decide (sx_wa w = 3) && (decide (sx_wc w % 8 = 4) && sx_oa (N _ sx_cg ((sx_wb w - 4) / 3)) (fun t => E _ t q.1 && (decide (t.2.2 = Int64.ofNat (sx_wc w / 8)) && D q pc (.ldc2_w t.2.1) 3)))
def sf_k2 : Bool :=
  if sx_wb w = 1 then decide (sx_wa w < 4) && D q pc (.iload_n (sx_f4 (sx_wa w))) 1
  else if sx_wb w = 2 then D q pc (.iload (sx_wa w)) 2
  else if sx_wb w = 17 then decide (sx_wa w < 4) && D q pc (.aload_n (sx_f4 (sx_wa w))) 1
  else if sx_wb w = 18 then D q pc (.aload (sx_wa w)) 2
  else if sx_wb w = 33 then decide (sx_wa w < 4) && D q pc (.lload_n (sx_f4 (sx_wa w))) 1
  else decide (sx_wb w = 34) && D q pc (.lload (sx_wa w)) 2
def sf_k3 : Bool :=
  if sx_wb w = 1 then decide (sx_wa w < 4) && D q pc (.istore_n (sx_f4 (sx_wa w))) 1
  else if sx_wb w = 2 then D q pc (.istore (sx_wa w)) 2
  else if sx_wb w = 17 then decide (sx_wa w < 4) && D q pc (.astore_n (sx_f4 (sx_wa w))) 1
  else if sx_wb w = 18 then D q pc (.astore (sx_wa w)) 2
  else if sx_wb w = 33 then decide (sx_wa w < 4) && D q pc (.lstore_n (sx_f4 (sx_wa w))) 1
  else decide (sx_wb w = 34) && D q pc (.lstore (sx_wa w)) 2
def sf_k4 : Bool := decide (sx_wa w ≤ 10) && D q pc (sx_bi (sx_wa w)) 1
def sf_k5 : Bool := D q pc (.iinc (sx_wa w) (Int32.ofNat (sx_wc w)).toInt) 3
def sf_k6 : Bool := decide (sx_wa w ≤ 5) && D q pc (.ifCond (sx_cnd (sx_wa w)) (sx_of pc (sx_wb w))) 3
def sf_k7 : Bool := decide (sx_wa w ≤ 5) && D q pc (.if_icmp (sx_cnd (sx_wa w)) (sx_of pc (sx_wb w))) 3
def sf_k8 : Bool := D q pc (.goto (sx_of pc (sx_wb w))) 3
def sf_k9 : Bool := sx_oa (N _ sx_fl (sx_wa w)) (fun t => E _ t q.1 && D q pc (.getfield t.2.1) 3)
def sf_k10 : Bool := sx_oa (N _ sx_fl (sx_wa w)) (fun t => E _ t q.1 && (D q pc (.putfield t.2.1) 3 && sx_pf q (sx_wa w)))
def sf_k18 : Bool := sx_oa (N _ sx_cl (sx_wa w)) (fun t => E _ t q.1 && (D q pc (.new t.2.1) 3 && (sx_oa (N _ sx_classes (sx_wb w)) (fun C => decide (C.1 = t.2.2)) && decide (sx_wb w < 12))))
def sf_k19 : Bool := if sx_wa w = 0 then D q pc (.newarray .int) 2 else decide (sx_wa w = 1) && D q pc (.newarray .long) 2
def sf_k20 : Bool := sx_oa (N _ sx_cl (sx_wa w)) (fun t => E _ t q.1 && (D q pc (.anewarray t.2.1) 3 && decide (t.2.2 = "AbsentRings$Table")))
/-- a call by the receiver's class: which classes, in the table of such calls -/
def sf_k21 : Bool := sx_oa (N _ sx_ml (sx_wa w)) (fun t => E _ t q.1 && (D q pc (.invokevirtual t.2.1) 3 && (decide (sx_wb w < 4096) && (List.range 12).all (fun ci => if (sx_wb w >>> ci) % 2 = 1 then sx_oa (N _ sx_vt (sx_wa w)) (fun u => u.any (fun v => decide (v.1 = ci) && decide (v.2.1 = sx_wc w))) else true))))
def sf_k22 : Bool := sx_stat.any (fun v => decide (v.1 = sx_wc w)) && sx_oa (N _ sx_ms (sx_wc w)) (fun r =>
  if sx_wb w = 0 then sx_oa (N _ sx_ml (sx_wa w)) (fun t => E _ t q.1 && (D q pc (.invokestatic t.2.1) 3 && decide (t.2.2 = r.1)))
  else sx_oa (N _ sx_nl (sx_wa w)) (fun t => E _ t q.1 && (D q pc (.invokestatic t.2.1) 3 && decide (t.2.2.1 = r.1))))
def sf_k23 : Bool := sx_init.any (fun v => decide (v.1 = sx_wc w)) && sx_oa (N _ sx_ms (sx_wc w)) (fun r =>
  if sx_wb w = 0 then sx_oa (N _ sx_ml (sx_wa w)) (fun t => E _ t q.1 && (D q pc (.invokespecial t.2.1) 3 && decide (t.2.2 = r.1)))
  else sx_oa (N _ sx_nl (sx_wa w)) (fun t => E _ t q.1 && (D q pc (.invokespecial t.2.1) 3 && decide (t.2.2.1 = r.1))))
def sf_k24 : Bool := sx_oa (N _ sx_ml (sx_wa w)) (fun t => E _ t q.1 && (D q pc (.invokespecial t.2.1) 3 && decide (t.2.2 = Lib.objectInit)))
def sf_k25 : Bool := sx_oa (N _ sx_ml (sx_wa w)) (fun t => E _ t q.1 && (D q pc (.invokestatic t.2.1) 3 && decide (t.2.2 = arraycopyName)))
def sf_k26 : Bool := if sx_wa w = 0 then decide (q.2.2.2.1 = some .int) && D q pc .ireturn 1 else if sx_wa w = 1 then decide (q.2.2.2.1 = some .boolean) && D q pc .ireturn 1 else decide (q.2.2.2.1 = some .long) && D q pc .lreturn 1
def sf_k27 : Bool := decide (q.2.2.2.1 = none) && D q pc .return_ 1
def sf_k28 : Bool := sx_oa (N _ sx_cl (sx_wa w)) (fun t => E _ t q.1 && (D q pc (.new t.2.1) 3 && (D q (pc + 3) .dup 1 && (sx_oa (N _ sx_exc (sx_wb w % 16)) (fun e => decide (t.2.2 = e)) &&
  sx_oa (N _ sx_sr (sx_wc w % 65536)) (fun u => E _ u q.1 && sx_oa (N _ sx_ml (sx_wc w / 65536)) (fun v => E _ v q.1 && (decide (v.2.2 = Bundle.initS t.2.2) &&
    (if sx_wb w / 16 = 0 then D q (pc + 4) (.ldc u.2.1) 2 && (D q (pc + 6) (.invokespecial v.2.1) 3 && D q (pc + 9) .athrow 1)
     else D q (pc + 4) (.ldc_w u.2.1) 3 && (D q (pc + 7) (.invokespecial v.2.1) 3 && D q (pc + 10) .athrow 1)))))))))
def sf_k32 : Bool := if sx_wa w = 0 then D q pc .ineg 1 else if sx_wa w = 1 then D q pc .i2l 1 else decide (sx_wa w = 2) && D q pc .l2i 1
def sf_k35 : Bool := if sx_wa w = 0 then D q pc .ladd 1 else if sx_wa w = 1 then D q pc .lsub 1 else if sx_wa w = 2 then D q pc .lmul 1 else if sx_wa w = 3 then D q pc .ldiv 1 else D q pc .lcmp 1
def sf_k37 : Bool := sx_oa (N _ sx_tsw (sx_wa w)) (fun t => decide (2147483648 ≤ t.2.1) && (decide (t.2.1 < 4294967296) && (decide (0 < t.2.2.1.length) && (decide (t.2.1 + t.2.2.1.length ≤ 4294967296) && D q pc (.tableswitch (sx_of pc t.1) ((t.2.1 : Int) - 2147483648) ((t.2.1 : Int) + t.2.2.1.length - 2147483649) (t.2.2.1.map (sx_of pc)).toArray) t.2.2.2))))
def sf_k33 : Bool := decide (sx_wa w < sx_ns) && sx_oa (N _ sx_sr (sx_wa w)) (fun u => E _ u q.1 && (if sx_wb w = 2 then D q pc (.ldc u.2.1) 2 else decide (sx_wb w = 3) && D q pc (.ldc_w u.2.1) 3))
def sf_k34 : Bool := sx_oa (N _ sx_fx (sx_wa w)) (fun t => E _ t q.1 && (D q pc (.getstatic t.2.1) 3 && (if sx_wb w = 0 then decide (t.2.2 = ("AbsentRings$Sides", "ORDERS", "[I")) && decide (sx_wc w = 13) else if sx_wb w = 1 then decide (t.2.2 = ("java/lang/String", "COMPACT_STRINGS", "Z")) && decide (sx_wc w = 8)
  else decide (t.2.2 = ("jdk/internal/util/Preconditions", "SIOOBE_FORMATTER", "Ljava/util/function/BiFunction;")) && decide (sx_wc w = 15))))
def sf_k38 : Bool := sx_oa (N _ sx_fx (sx_wa w)) (fun t => E _ t q.1 && (D q pc (.getfield t.2.1) 3 && (if sx_wb w = 0 then decide (t.2.2 = ("java/lang/String", "coder", "B")) else decide (t.2.2 = ("java/lang/String", "value", "[B")))))
def sf_k39 : Bool := sx_oa (N _ sx_ml (sx_wa w)) (fun t => E _ t q.1 && (D q pc (.invokevirtual t.2.1) 3 && sx_xt.any (fun v => decide (v.1 = sx_wa w) && decide (v.2.1 = sx_wc w))))
def sf_k40 : Bool := sf_k21 D E N q pc (sx_w1 w) && sf_k21 D E N q pc (sx_w2 w)
def sf_k41 : Bool := sx_oa (N _ sx_cg (sx_wa w)) (fun t => E _ t q.1 && D q pc (.ldc2_w t.2.1) 3)
def sf_k43 : Bool := if sx_wa w = 0 then decide (q.2.2.2.1 = some .byte) && D q pc .ireturn 1 else decide (q.2.2.2.1 = some .char) && D q pc .ireturn 1
def sf_wd : Bool := let o := sx_op w
  if o = 1 then sf_k1 D E N q pc w else if o = 2 then sf_k2 D q pc w else if o = 3 then sf_k3 D q pc w else if o = 4 then sf_k4 D q pc w else if o = 5 then sf_k5 D q pc w else if o = 6 then sf_k6 D q pc w else if o = 7 then sf_k7 D q pc w else if o = 8 then sf_k8 D q pc w
  else if o = 9 then sf_k9 D E N q pc w else if o = 10 then sf_k10 D E N q pc w else if o = 11 then D q pc .iaload 1 else if o = 12 then D q pc .iastore 1 else if o = 13 then D q pc .laload 1 else if o = 14 then D q pc .lastore 1 else if o = 15 then D q pc .aaload 1 else if o = 16 then D q pc .aastore 1
  else if o = 17 then D q pc .arraylength 1 else if o = 18 then sf_k18 D E N q pc w else if o = 19 then sf_k19 D q pc w else if o = 20 then sf_k20 D E N q pc w else if o = 21 then sf_k21 D E N q pc w else if o = 22 then sf_k22 D E N q pc w else if o = 23 then sf_k23 D E N q pc w else if o = 24 then sf_k24 D E N q pc w
  else if o = 25 then sf_k25 D E N q pc w else if o = 26 then sf_k26 D q pc w else if o = 27 then sf_k27 D q pc else if o = 28 then sf_k28 D E N q pc w else if o = 29 then D q pc .dup 1 else if o = 30 then D q pc .dup2 1 else if o = 31 then D q pc .pop 1 else if o = 32 then sf_k32 D q pc w
  else if o = 35 then sf_k35 D q pc w else if o = 37 then sf_k37 D N q pc w else if o = 33 then sf_k33 D E N q pc w else if o = 34 then sf_k34 D E N q pc w else if o = 36 then D q pc .baload 1 else if o = 38 then sf_k38 D E N q pc w else if o = 39 then sf_k39 D E N q pc w else if o = 40 then sf_k40 D E N q pc w else if o = 41 then sf_k41 D E N q pc w else if o = 42 then D q pc .i2c 1 else if o = 43 then sf_k43 D q pc w else true
end SFWd
/-- a quick look whether a row speaks of a method's class -/
def sf_E (β : Type) (t : String × β) (n : MethodName) : Bool := match t, n with
  | (a, _), ⟨c, _, _⟩ => decide (a = c)
theorem sf_E_eq : sf_E = fun (β : Type) (t : String × β) (n : MethodName) => decide (t.1 = n.cls) := by
  funext β t n
  cases t
  cases n
  rfl
def sf_D (q : sx_M) (pc : Nat) (i : Instr) (n : Nat) : Bool := sd_dF q.2.1 pc i n || sx_dc q pc i n
theorem sf_D_eq : sf_D = sx_dc := by
  funext q pc i n
  show (sd_dF q.2.1 pc i n || sx_dc q pc i n) = sx_dc q pc i n
  cases h : sd_dF q.2.1 pc i n with
  | false => rfl
  | true => exact (decide_eq_true (sd_dF_ok h)).symm
noncomputable def sf_N (α : Type) (l : List α) (k : Nat) : Option α := sx_nth l k
theorem sf_N_eq : sf_N = fun (α : Type) (l : List α) (k : Nat) => l[k]? := by
  funext α l k
  exact sx_nth_eq l k
theorem sf_ok (q : sx_M) (pc w : Nat) : sf_wd sf_D sf_E sf_N q pc w = sx_wd q pc w := by
  rw [sf_D_eq, sf_E_eq, sf_N_eq]
  rfl
noncomputable def sf_mw (q : sx_M) (cd len : Nat) : Bool := decide (cd < 2 ^ (80 * len)) && (List.range len).all (fun pc => if sx_ft cd pc = 0 then true else sf_wd sf_D sf_E sf_N q pc (sx_ft cd pc))
theorem sf_mw_eq (q : sx_M) (cd len : Nat) : sf_mw q cd len = sx_mw q cd len := by
  unfold sf_mw sx_mw
  simp only [sf_ok]
noncomputable def sf_nB (mi : Nat) (d : String) : Bool := if sf_has sx_stl mi then decide ((parseMethodDescriptor d).map (fun d => d.parameters.length) = some (sx_ia (sx_mt mi).2)) else decide ((parseMethodDescriptor d).map (fun d => d.parameters.length + 1) = some (sx_ia (sx_mt mi).2))
noncomputable def sf_mC (mi : Nat) : Bool := match sx_nth sx_ms mi with
  | none => true
  | some (⟨c, nm, d⟩, cd, ml, r, hs) => if (sx_mt mi).1 = 0 then true else (decide (mi = 0) || sf_mw (⟨c, nm, d⟩, cd, ml, r, hs) (sx_mt mi).1 cd.size) && (decide (sx_im (sx_mt mi).2 = ml) && ((plainName c || (NativeRow.find? Jvm.natives c nm d).isNone) && (decide (c ≠ "java/lang/invoke/MethodHandle" ∧ c ≠ "java/lang/invoke/VarHandle") && (sx_hB (sx_ihd (sx_mt mi).2) (⟨c, nm, d⟩, cd, ml, r, hs) && (decide (mi = 0) || (sf_nB mi d && sf_has sx_cdl mi))))))
theorem sf_mC_eq (mi : Nat) : sf_mC mi = sx_mC mi := by
  unfold sf_mC sx_mC
  rw [sx_nth_eq]
  cases sx_ms[mi]? with
  | none => rfl
  | some q =>
    obtain ⟨⟨c, nm, d⟩, cd, ml, r, hs⟩ := q
    simp only [sf_mw_eq, sf_nB, sf_has_eq]
    rfl
/-- the words alone; the rest alone -/
noncomputable def sf_mA (mi : Nat) : Bool := match sx_nth sx_ms mi with
  | none => true
  | some (⟨c, nm, d⟩, cd, ml, r, hs) => if (sx_mt mi).1 = 0 then true else (decide (mi = 0) || sf_mw (⟨c, nm, d⟩, cd, ml, r, hs) (sx_mt mi).1 cd.size)
noncomputable def sf_mB (mi : Nat) : Bool := match sx_nth sx_ms mi with
  | none => true
  | some (⟨c, nm, d⟩, cd, ml, r, hs) => if (sx_mt mi).1 = 0 then true else (decide (sx_im (sx_mt mi).2 = ml) && ((plainName c || (NativeRow.find? Jvm.natives c nm d).isNone) && (decide (c ≠ "java/lang/invoke/MethodHandle" ∧ c ≠ "java/lang/invoke/VarHandle") && (sx_hB (sx_ihd (sx_mt mi).2) (⟨c, nm, d⟩, cd, ml, r, hs) && (decide (mi = 0) || (sf_nB mi d && sf_has sx_cdl mi))))))
theorem sf_both {mi : Nat} (a : sf_mA mi = true) (b : sf_mB mi = true) : sx_mC mi = true := by
  rw [← sf_mC_eq]
  unfold sf_mA at a
  unfold sf_mB at b
  unfold sf_mC
  revert a b
  cases sx_nth sx_ms mi with
  | none => exact fun _ _ => rfl
  | some q =>
    obtain ⟨⟨c, nm, d⟩, cd, ml, r, hs⟩ := q
    intro a b
    dsimp only at a b ⊢
    by_cases z : (sx_mt mi).1 = 0
    · rw [if_pos z]
    · rw [if_neg z] at a b ⊢
      rw [a, Bool.true_and]
      exact b
set_option maxRecDepth 100000 in
theorem sf_mBa : (List.range 416).all sf_mB = true := by decide +kernel
theorem sf_up32 {k : Nat} (hk : 32 * k + 32 ≤ 416) (a : (List.range 32).all (fun i => sf_mA (32 * k + i)) = true) : (List.range 32).all (fun i => sx_mC (32 * k + i)) = true := List.all_eq_true.mpr fun i hi => by
  have hm := List.mem_range.mp hi
  exact sf_both (List.all_eq_true.mp a i hi) (List.all_eq_true.mp sf_mBa _ (List.mem_range.mpr (by omega)))
theorem sf_up31 (a : (List.range 31).all (fun i => sf_mA (i + 1)) = true) : (List.range 31).all (fun i => sx_mC (i + 1)) = true := List.all_eq_true.mpr fun i hi => by
  have hm := List.mem_range.mp hi
  exact sf_both (List.all_eq_true.mp a i hi) (List.all_eq_true.mp sf_mBa _ (List.mem_range.mpr (by omega)))
noncomputable def sf_m0 (pc : Nat) : Bool := if sx_ft sx_c0 pc = 0 then true else sf_wd sf_D sf_E sf_N (x, code, maxLocals, ret, []) pc (sx_ft sx_c0 pc)
theorem sf_m0_eq (pc : Nat) : sf_m0 pc = sx_m0 pc := by
  unfold sf_m0 sx_m0
  rw [sf_ok]
theorem sf_up {l : List Nat} {f g : Nat → Bool} (h : ∀ i, f i = g i) (a : l.all f = true) : l.all g = true := by
  rw [show g = f from (funext h).symm]
  exact a
