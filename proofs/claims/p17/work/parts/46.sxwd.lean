/-! sx: a word of the executor's against the method's own code -/
def sx_oa {α : Type} (o : Option α) (f : α → Bool) : Bool := match o with
  | some t => f t
  | none => false
theorem sx_oa_ok {α : Type} {o : Option α} {f : α → Bool} (h : sx_oa o f = true) : ∃ t, o = some t ∧ f t = true := by
  cases o with
  | none => cases h
  | some t => exact ⟨t, rfl, h⟩
def sx_dc (q : sx_M) (pc : Nat) (i : Instr) (n : Nat) : Bool := decide (decode q.2.1 pc = .ok (i, n))
theorem sx_dc_ok {q : sx_M} {pc n : Nat} {i : Instr} (h : sx_dc q pc i n = true) : decode q.2.1 pc = .ok (i, n) := of_decide_eq_true h
def sx_cnd (a : Nat) : ClassFile.Cond := if a = 0 then .eq else if a = 1 then .ne else if a = 2 then .lt else if a = 3 then .ge else if a = 4 then .gt else .le
def sx_of (pc t : Nat) : Int := (t : Int) - (pc : Int)
def sx_f4 (a : Nat) : Fin 4 := ⟨a % 4, Nat.mod_lt _ (by decide)⟩
section SXWd
variable (q : sx_M) (pc w : Nat)
def sx_k1 : Bool :=
  let z := Int32.ofNat (sx_wc w / 8)
  if sx_wb w = 0 then decide (sx_wa w = 1) && (decide (sx_wc w % 8 = 0) && sx_dc q pc (.iconst z.toInt) 1)
  else if sx_wb w = 1 then decide (sx_wa w = 2) && (decide (sx_wc w % 8 = 0) && (decide ((Int8.ofInt z.toInt).toInt32 = z) && sx_dc q pc (.bipush z.toInt) 2))
  else if sx_wb w = 2 then decide (sx_wa w = 3) && (decide (sx_wc w % 8 = 0) && (decide ((Int16.ofInt z.toInt).toInt32 = z) && sx_dc q pc (.sipush z.toInt) 3))
  else if sx_wb w = 3 then decide (sx_wa w = 1) && ((decide (sx_wc w = 4) && sx_dc q pc (.lconst 0) 1) || (decide (sx_wc w = 12) && sx_dc q pc (.lconst 1) 1))
  else if (sx_wb w - 4) % 3 = 0 then decide (sx_wa w = 2) && (decide (sx_wc w % 8 = 0) && sx_oa (sx_cn[(sx_wb w - 4) / 3]?) (fun t => decide (t.1 = q.1.cls) && (decide (t.2.2 = z) && sx_dc q pc (.ldc t.2.1) 2)))
  else if (sx_wb w - 4) % 3 = 1 then decide (sx_wa w = 3) && (decide (sx_wc w % 8 = 0) && sx_oa (sx_cn[(sx_wb w - 4) / 3]?) (fun t => decide (t.1 = q.1.cls) && (decide (t.2.2 = z) && sx_dc q pc (.ldc_w t.2.1) 3)))
  else decide (sx_wa w = 3) && (decide (sx_wc w % 8 = 4) && sx_oa (sx_cg[(sx_wb w - 4) / 3]?) (fun t => decide (t.1 = q.1.cls) && (decide (t.2.2 = Int64.ofNat (sx_wc w / 8)) && sx_dc q pc (.ldc2_w t.2.1) 3)))
def sx_k2 : Bool :=
  if sx_wb w = 1 then decide (sx_wa w < 4) && sx_dc q pc (.iload_n (sx_f4 (sx_wa w))) 1
  else if sx_wb w = 2 then sx_dc q pc (.iload (sx_wa w)) 2
  else if sx_wb w = 17 then decide (sx_wa w < 4) && sx_dc q pc (.aload_n (sx_f4 (sx_wa w))) 1
  else if sx_wb w = 18 then sx_dc q pc (.aload (sx_wa w)) 2
  else if sx_wb w = 33 then decide (sx_wa w < 4) && sx_dc q pc (.lload_n (sx_f4 (sx_wa w))) 1
  else decide (sx_wb w = 34) && sx_dc q pc (.lload (sx_wa w)) 2
def sx_k3 : Bool :=
  if sx_wb w = 1 then decide (sx_wa w < 4) && sx_dc q pc (.istore_n (sx_f4 (sx_wa w))) 1
  else if sx_wb w = 2 then sx_dc q pc (.istore (sx_wa w)) 2
  else if sx_wb w = 17 then decide (sx_wa w < 4) && sx_dc q pc (.astore_n (sx_f4 (sx_wa w))) 1
  else if sx_wb w = 18 then sx_dc q pc (.astore (sx_wa w)) 2
  else if sx_wb w = 33 then decide (sx_wa w < 4) && sx_dc q pc (.lstore_n (sx_f4 (sx_wa w))) 1
  else decide (sx_wb w = 34) && sx_dc q pc (.lstore (sx_wa w)) 2
def sx_bi (o : Nat) : Instr := if o = 0 then .iadd else if o = 1 then .isub else if o = 2 then .imul else if o = 3 then .iand else if o = 4 then .ior else if o = 5 then .ixor else if o = 6 then .ishl else if o = 7 then .ishr else if o = 8 then .iushr else if o = 9 then .idiv else .irem
def sx_k4 : Bool := decide (sx_wa w ≤ 10) && sx_dc q pc (sx_bi (sx_wa w)) 1
def sx_k5 : Bool := sx_dc q pc (.iinc (sx_wa w) (Int32.ofNat (sx_wc w)).toInt) 3
def sx_k6 : Bool := decide (sx_wa w ≤ 5) && sx_dc q pc (.ifCond (sx_cnd (sx_wa w)) (sx_of pc (sx_wb w))) 3
def sx_k7 : Bool := decide (sx_wa w ≤ 5) && sx_dc q pc (.if_icmp (sx_cnd (sx_wa w)) (sx_of pc (sx_wb w))) 3
def sx_k8 : Bool := sx_dc q pc (.goto (sx_of pc (sx_wb w))) 3
def sx_k9 : Bool := sx_oa (sx_fl[sx_wa w]?) (fun t => decide (t.1 = q.1.cls) && sx_dc q pc (.getfield t.2.1) 3)
/-- a final field is written where it may be -/
def sx_pf (k : Nat) : Bool := (List.range 12).all (fun ci => let j := sx_slot ci k; if j = 0 then true else sx_oa (sx_classes[ci]?) (fun C => if (C.2.1 (j % 32 - 1)).2.2.2 = true then decide (q.1.name = "<init>") && decide ((C.2.1 (j % 32 - 1)).1 = q.1.cls) else true))
def sx_k10 : Bool := sx_oa (sx_fl[sx_wa w]?) (fun t => decide (t.1 = q.1.cls) && (sx_dc q pc (.putfield t.2.1) 3 && sx_pf q (sx_wa w)))
def sx_k18 : Bool := sx_oa (sx_cl[sx_wa w]?) (fun t => decide (t.1 = q.1.cls) && (sx_dc q pc (.new t.2.1) 3 && (sx_oa (sx_classes[sx_wb w]?) (fun C => decide (C.1 = t.2.2)) && decide (sx_wb w < 12))))
def sx_k19 : Bool := if sx_wa w = 0 then sx_dc q pc (.newarray .int) 2 else decide (sx_wa w = 1) && sx_dc q pc (.newarray .long) 2
def sx_k20 : Bool := sx_oa (sx_cl[sx_wa w]?) (fun t => decide (t.1 = q.1.cls) && (sx_dc q pc (.anewarray t.2.1) 3 && decide (t.2.2 = "AbsentRings$Table")))
/-- a call by the receiver's class: which classes, in the table of such calls -/
def sx_k21 : Bool := sx_oa (sx_ml[sx_wa w]?) (fun t => decide (t.1 = q.1.cls) && (sx_dc q pc (.invokevirtual t.2.1) 3 && (decide (sx_wb w < 4096) && (List.range 12).all (fun ci => if (sx_wb w >>> ci) % 2 = 1 then sx_oa (sx_vt[sx_wa w]?) (fun u => u.any (fun v => decide (v.1 = ci) && decide (v.2.1 = sx_wc w))) else true))))
def sx_k22 : Bool := sx_stat.any (fun v => decide (v.1 = sx_wc w)) && sx_oa (sx_ms[sx_wc w]?) (fun r =>
  if sx_wb w = 0 then sx_oa (sx_ml[sx_wa w]?) (fun t => decide (t.1 = q.1.cls) && (sx_dc q pc (.invokestatic t.2.1) 3 && decide (t.2.2 = r.1)))
  else sx_oa (sx_nl[sx_wa w]?) (fun t => decide (t.1 = q.1.cls) && (sx_dc q pc (.invokestatic t.2.1) 3 && decide (t.2.2.1 = r.1))))
def sx_k23 : Bool := sx_init.any (fun v => decide (v.1 = sx_wc w)) && sx_oa (sx_ms[sx_wc w]?) (fun r =>
  if sx_wb w = 0 then sx_oa (sx_ml[sx_wa w]?) (fun t => decide (t.1 = q.1.cls) && (sx_dc q pc (.invokespecial t.2.1) 3 && decide (t.2.2 = r.1)))
  else sx_oa (sx_nl[sx_wa w]?) (fun t => decide (t.1 = q.1.cls) && (sx_dc q pc (.invokespecial t.2.1) 3 && decide (t.2.2.1 = r.1))))
def sx_k24 : Bool := sx_oa (sx_ml[sx_wa w]?) (fun t => decide (t.1 = q.1.cls) && (sx_dc q pc (.invokespecial t.2.1) 3 && decide (t.2.2 = Lib.objectInit)))
def sx_k25 : Bool := sx_oa (sx_ml[sx_wa w]?) (fun t => decide (t.1 = q.1.cls) && (sx_dc q pc (.invokestatic t.2.1) 3 && decide (t.2.2 = arraycopyName)))
def sx_k26 : Bool := if sx_wa w = 0 then decide (q.2.2.2.1 = some .int) && sx_dc q pc .ireturn 1 else if sx_wa w = 1 then decide (q.2.2.2.1 = some .boolean) && sx_dc q pc .ireturn 1 else decide (q.2.2.2.1 = some .long) && sx_dc q pc .lreturn 1
def sx_k27 : Bool := decide (q.2.2.2.1 = none) && sx_dc q pc .return_ 1
def sx_k28 : Bool := sx_oa (sx_cl[sx_wa w]?) (fun t => decide (t.1 = q.1.cls) && (sx_dc q pc (.new t.2.1) 3 && (sx_dc q (pc + 3) .dup 1 && (sx_oa (sx_exc[sx_wb w % 16]?) (fun E => decide (t.2.2 = E)) &&
  sx_oa (sx_sr[sx_wc w % 65536]?) (fun u => decide (u.1 = q.1.cls) && sx_oa (sx_ml[sx_wc w / 65536]?) (fun v => decide (v.1 = q.1.cls) && (decide (v.2.2 = Bundle.initS t.2.2) &&
    (if sx_wb w / 16 = 0 then sx_dc q (pc + 4) (.ldc u.2.1) 2 && (sx_dc q (pc + 6) (.invokespecial v.2.1) 3 && sx_dc q (pc + 9) .athrow 1)
     else sx_dc q (pc + 4) (.ldc_w u.2.1) 3 && (sx_dc q (pc + 7) (.invokespecial v.2.1) 3 && sx_dc q (pc + 10) .athrow 1)))))))))
def sx_k32 : Bool := if sx_wa w = 0 then sx_dc q pc .ineg 1 else if sx_wa w = 1 then sx_dc q pc .i2l 1 else decide (sx_wa w = 2) && sx_dc q pc .l2i 1
def sx_k35 : Bool := if sx_wa w = 0 then sx_dc q pc .ladd 1 else if sx_wa w = 1 then sx_dc q pc .lsub 1 else if sx_wa w = 2 then sx_dc q pc .lmul 1 else if sx_wa w = 3 then sx_dc q pc .ldiv 1 else sx_dc q pc .lcmp 1
def sx_k37 : Bool := sx_oa (sx_tsw[sx_wa w]?) (fun t => decide (2147483648 ≤ t.2.1) && (decide (t.2.1 < 4294967296) && (decide (0 < t.2.2.1.length) && (decide (t.2.1 + t.2.2.1.length ≤ 4294967296) && sx_dc q pc (.tableswitch (sx_of pc t.1) ((t.2.1 : Int) - 2147483648) ((t.2.1 : Int) + t.2.2.1.length - 2147483649) (t.2.2.1.map (sx_of pc)).toArray) t.2.2.2))))
def sx_k33 : Bool := decide (sx_wa w < sx_ns) && sx_oa (sx_sr[sx_wa w]?) (fun u => decide (u.1 = q.1.cls) && (if sx_wb w = 2 then sx_dc q pc (.ldc u.2.1) 2 else decide (sx_wb w = 3) && sx_dc q pc (.ldc_w u.2.1) 3))
def sx_k34 : Bool := sx_oa (sx_fx[sx_wa w]?) (fun t => decide (t.1 = q.1.cls) && (sx_dc q pc (.getstatic t.2.1) 3 && (if sx_wb w = 0 then decide (t.2.2 = ("AbsentRings$Sides", "ORDERS", "[I")) && decide (sx_wc w = 13) else if sx_wb w = 1 then decide (t.2.2 = ("java/lang/String", "COMPACT_STRINGS", "Z")) && decide (sx_wc w = 8)
  else decide (t.2.2 = ("jdk/internal/util/Preconditions", "SIOOBE_FORMATTER", "Ljava/util/function/BiFunction;")) && decide (sx_wc w = 15))))
def sx_k38 : Bool := sx_oa (sx_fx[sx_wa w]?) (fun t => decide (t.1 = q.1.cls) && (sx_dc q pc (.getfield t.2.1) 3 && (if sx_wb w = 0 then decide (t.2.2 = ("java/lang/String", "coder", "B")) else decide (t.2.2 = ("java/lang/String", "value", "[B")))))
def sx_k39 : Bool := sx_oa (sx_ml[sx_wa w]?) (fun t => decide (t.1 = q.1.cls) && (sx_dc q pc (.invokevirtual t.2.1) 3 && sx_xt.any (fun v => decide (v.1 = sx_wa w) && decide (v.2.1 = sx_wc w))))
def sx_k40 : Bool := sx_k21 q pc (sx_w1 w) && sx_k21 q pc (sx_w2 w)
def sx_k41 : Bool := sx_oa (sx_cg[sx_wa w]?) (fun t => decide (t.1 = q.1.cls) && sx_dc q pc (.ldc2_w t.2.1) 3)
def sx_k43 : Bool := if sx_wa w = 0 then decide (q.2.2.2.1 = some .byte) && sx_dc q pc .ireturn 1 else decide (q.2.2.2.1 = some .char) && sx_dc q pc .ireturn 1
def sx_wd : Bool := let o := sx_op w
  if o = 1 then sx_k1 q pc w else if o = 2 then sx_k2 q pc w else if o = 3 then sx_k3 q pc w else if o = 4 then sx_k4 q pc w else if o = 5 then sx_k5 q pc w else if o = 6 then sx_k6 q pc w else if o = 7 then sx_k7 q pc w else if o = 8 then sx_k8 q pc w
  else if o = 9 then sx_k9 q pc w else if o = 10 then sx_k10 q pc w else if o = 11 then sx_dc q pc .iaload 1 else if o = 12 then sx_dc q pc .iastore 1 else if o = 13 then sx_dc q pc .laload 1 else if o = 14 then sx_dc q pc .lastore 1 else if o = 15 then sx_dc q pc .aaload 1 else if o = 16 then sx_dc q pc .aastore 1
  else if o = 17 then sx_dc q pc .arraylength 1 else if o = 18 then sx_k18 q pc w else if o = 19 then sx_k19 q pc w else if o = 20 then sx_k20 q pc w else if o = 21 then sx_k21 q pc w else if o = 22 then sx_k22 q pc w else if o = 23 then sx_k23 q pc w else if o = 24 then sx_k24 q pc w
  else if o = 25 then sx_k25 q pc w else if o = 26 then sx_k26 q pc w else if o = 27 then sx_k27 q pc else if o = 28 then sx_k28 q pc w else if o = 29 then sx_dc q pc .dup 1 else if o = 30 then sx_dc q pc .dup2 1 else if o = 31 then sx_dc q pc .pop 1 else if o = 32 then sx_k32 q pc w
  else if o = 35 then sx_k35 q pc w else if o = 37 then sx_k37 q pc w else if o = 33 then sx_k33 q pc w else if o = 34 then sx_k34 q pc w else if o = 36 then sx_dc q pc .baload 1 else if o = 38 then sx_k38 q pc w else if o = 39 then sx_k39 q pc w else if o = 40 then sx_k40 q pc w else if o = 41 then sx_k41 q pc w else if o = 42 then sx_dc q pc .i2c 1 else if o = 43 then sx_k43 q pc w else true
end SXWd
/-- all words of a method -/
def sx_mw (q : sx_M) (cd len : Nat) : Bool := decide (cd < 2 ^ (80 * len)) && (List.range len).all (fun pc => if sx_ft cd pc = 0 then true else sx_wd q pc (sx_ft cd pc))
theorem sx_mw_ok {q : sx_M} {cd len : Nat} (h : sx_mw q cd len = true) (pc : Nat) (h0 : sx_op (sx_ft cd pc) ≠ 0) : sx_wd q pc (sx_ft cd pc) = true := by
  unfold sx_mw at h
  rw [Bool.and_eq_true, decide_eq_true_eq] at h
  have hne : ¬ sx_ft cd pc = 0 := fun q => h0 (by rw [q]; rfl)
  by_cases hl : pc < len
  · have h1 := List.all_eq_true.mp h.2 pc (List.mem_range.mpr hl)
    rw [if_neg hne] at h1
    exact h1
  · exfalso
    apply hne
    show (cd >>> (80 * pc)) % 1208925819614629174706176 = 0
    have h2 : cd < 2 ^ (80 * pc) := Nat.lt_of_lt_of_le h.1 (Nat.pow_le_pow_right (by decide) (by omega))
    rw [Nat.shiftRight_eq_div_pow, Nat.div_eq_of_lt h2]
