/-! sx: the methods, each against its words -/
def sx_lU : List UInt8 → List UInt8 → Bool
  | [], [] => true
  | x :: a, y :: z => Nat.beq x.toNat y.toNat && sx_lU a z
  | _, _ => false
theorem sx_lU_ok : ∀ {a z : List UInt8}, sx_lU a z = true → a = z
  | [], [], _ => rfl
  | [], _ :: _, h => by cases h
  | _ :: _, [], h => by cases h
  | x :: a, y :: z, h => by
    unfold sx_lU at h
    rw [Bool.and_eq_true] at h
    rw [sx_lU_ok h.2, UInt8.toNat_inj.mp (Nat.eq_of_beq_eq_true h.1)]
def sx_bU (a z : ByteArray) : Bool := sx_lU a.data.toList z.data.toList
theorem sx_bU_ok {a z : ByteArray} (h : sx_bU a z = true) : a = z := by
  have := sx_lU_ok h
  obtain ⟨⟨a⟩⟩ := a
  obtain ⟨⟨z⟩⟩ := z
  have : a = z := this
  rw [this]
/-- a row of a method's code -/
def sx_wq (w : Cond) (q : sx_M) : Bool := match w with
  | .code n c l r => decide (q.2.2.2.2 = []) && (decide (n = q.1) && (decide (l = q.2.2.1) && (decide (r = q.2.2.2.1) && sx_bU c q.2.1)))
  | .codeWith n c l r hs => decide (q.2.2.2.2 ≠ []) && (decide (n = q.1) && (decide (l = q.2.2.1) && (decide (r = q.2.2.2.1) && (decide (hs = q.2.2.2.2) && sx_bU c q.2.1))))
  | _ => false
def sx_cq (q : sx_M) (w : Cond) : Prop := (q.2.2.2.2 = [] ∧ w = .code q.1 q.2.1 q.2.2.1 q.2.2.2.1) ∨ (q.2.2.2.2 ≠ [] ∧ w = .codeWith q.1 q.2.1 q.2.2.1 q.2.2.2.1 q.2.2.2.2)
theorem sx_wq_ok {w : Cond} {q : sx_M} (h : sx_wq w q = true) : sx_cq q w ∧ goodWord w = true := by
  unfold sx_wq at h
  split at h
  · simp only [Bool.and_eq_true, decide_eq_true_eq] at h
    obtain ⟨h1, rfl, rfl, rfl, h2⟩ := h
    exact ⟨Or.inl ⟨h1, by rw [sx_bU_ok h2]⟩, rfl⟩
  · simp only [Bool.and_eq_true, decide_eq_true_eq] at h
    obtain ⟨h1, rfl, rfl, rfl, rfl, h2⟩ := h
    exact ⟨Or.inr ⟨h1, by rw [sx_bU_ok h2]⟩, rfl⟩
  · cases h
def sx_pq : List Cond → List Nat → List Nat → Bool
  | _, [], [] => true
  | l, g :: gs, mi :: ms => match l.drop g with
    | a :: l' => sx_oa (sx_ms[mi]?) (fun q => sx_wq a q) && sx_pq l' gs ms
    | [] => false
  | _, _, _ => false
theorem sx_pq_ok : ∀ {gs ms : List Nat} {l : List Cond}, sx_pq l gs ms = true → ∀ mi ∈ ms, ∃ q w, sx_ms[mi]? = some q ∧ w ∈ l ∧ sx_cq q w ∧ goodWord w = true
  | [], [], l, _, w, hw => by cases hw
  | [], _ :: _, l, h, _, _ => by simp [sx_pq] at h
  | _ :: _, [], l, h, _, _ => by simp [sx_pq] at h
  | g :: gs, mj :: ms, l, h, mi, hv => by
    unfold sx_pq at h
    cases hd : l.drop g with
    | nil => rw [hd] at h; cases h
    | cons a l' =>
      rw [hd] at h
      simp only [Bool.and_eq_true] at h
      obtain ⟨h1, h2⟩ := h
      have hsub : ∀ x ∈ a :: l', x ∈ l := fun x hx => List.mem_of_mem_drop (hd ▸ hx)
      rcases List.mem_cons.mp hv with rfl | hv
      · obtain ⟨q, hq, h3⟩ := sx_oa_ok h1
        exact ⟨q, a, hq, hsub _ List.mem_cons_self, sx_wq_ok h3⟩
      · obtain ⟨q, w, q1, q2, q3⟩ := sx_pq_ok h2 mi hv
        exact ⟨q, w, q1, hsub _ (List.mem_cons_of_mem _ q2), q3⟩
theorem sx_z1212 : sx_pq lw_tbl sx_cdg sx_cdl = true := by decide +kernel
def sx_mC (mi : Nat) : Bool := match sx_ms[mi]? with
  | none => true
  | some q => if (sx_mt mi).1 = 0 then true else (decide (mi = 0) || sx_mw q (sx_mt mi).1 q.2.1.size) && (decide (sx_im (sx_mt mi).2 = q.2.2.1) && (plainFor q.1 && (decide (q.1.cls ≠ "java/lang/invoke/MethodHandle" ∧ q.1.cls ≠ "java/lang/invoke/VarHandle") && (sx_hB (sx_ihd (sx_mt mi).2) q && (decide (mi = 0) || (sx_nB mi q && sx_cdl.contains mi))))))
def sx_m0 (pc : Nat) : Bool := if sx_ft sx_c0 pc = 0 then true else sx_wd (x, code, maxLocals, ret, []) pc (sx_ft sx_c0 pc)
