/-! sx: numbers -/
theorem sx_b_int (z : Int32) : (sx_b z : Int) = z.toInt + 2147483648 := by
  have h1 := Int32.le_toInt z
  unfold sx_b
  rw [Int.toNat_of_nonneg (by omega)]
theorem sx_b_lt (z : Int32) : sx_b z < 4294967296 := by
  have h1 := sx_b_int z
  have h2 := Int32.toInt_lt z
  omega
theorem sx_b_inj {y z : Int32} (h : sx_b y = sx_b z) : y = z := by
  have h1 := sx_b_int y
  have h2 := sx_b_int z
  exact Int32.toInt_inj.mp (by omega)
theorem sx_b_eq {y z : Int32} : sx_b y = sx_b z ↔ y = z := ⟨sx_b_inj, fun h => by rw [h]⟩
theorem sx_b_ltI {y z : Int32} : sx_b y < sx_b z ↔ y < z := by
  have h1 := sx_b_int y
  have h2 := sx_b_int z
  rw [Int32.lt_iff_toInt_lt]
  omega
theorem sx_b_leI {y z : Int32} : sx_b y ≤ sx_b z ↔ y ≤ z := by
  have h1 := sx_b_int y
  have h2 := sx_b_int z
  rw [Int32.le_iff_toInt_le]
  omega
theorem sx_bs_eq (x : Nat) : sx_bs x = (x + 2147483648) % 4294967296 := rfl
theorem sx_b_ofNat (x : Nat) : sx_b (Int32.ofNat x) = sx_bs x := by
  have h1 := sx_b_int (Int32.ofNat x)
  rw [Int32.toInt_ofNat'] at h1
  rw [sx_bs_eq]
  simp only [Int.bmod_def, show ((Int32.size : Nat) : Int) = 4294967296 from rfl] at h1
  split at h1 <;> omega
theorem sx_b_back (z : Int32) : Int32.ofNat (sx_bs (sx_b z)) = z := by
  apply sx_b_inj
  rw [sx_b_ofNat, sx_bs_eq, sx_bs_eq]
  have := sx_b_lt z
  omega
theorem sx_app_ok {a b : sx_R} {outs : List sx_O} (h : sx_app a b = some outs) : ∃ x y, a = some x ∧ b = some y ∧ outs = x ++ y := by
  cases a with
  | none => cases h
  | some x =>
    cases b with
    | none => cases h
    | some y => exact ⟨x, y, rfl, rfl, (Option.some.inj h).symm⟩
theorem sx_if_ok {c : Bool} {a : sx_R} {outs : List sx_O} (h : sx_if c a none = some outs) : c = true ∧ a = some outs := by
  cases c with
  | true => exact ⟨rfl, h⟩
  | false => cases h
theorem sx_and_ok {a b : Bool} (h : sx_and a b = true) : a = true ∧ b = true := by
  cases a with
  | true => exact ⟨rfl, h⟩
  | false => cases h
theorem sx_opt_ok {α : Type} {o : Option α} {f : α → sx_R} {outs : List sx_O} (h : (Option.rec none f o : sx_R) = some outs) : ∃ x, o = some x ∧ f x = some outs := by
  cases o with
  | none => cases h
  | some x => exact ⟨x, rfl, h⟩
theorem sx_beq {a b : Nat} (h : Nat.beq a b = true) : a = b := Nat.eq_of_beq_eq_true h
theorem sx_ble {a b : Nat} (h : Nat.ble a b = true) : a ≤ b := Nat.le_of_ble_eq_true h
theorem sx_blt {a b : Nat} (h : Nat.blt a b = true) : a < b := Nat.le_of_ble_eq_true h
theorem sx_beq_f {a b : Nat} (h : Nat.beq a b = false) : a ≠ b := Nat.ne_of_beq_eq_false h
theorem sx_tg_eq (v : Nat) : sx_tg v = v % 8 := rfl
theorem sx_pl_eq (v : Nat) : sx_pl v = v / 8 := rfl
section SXNum
variable {b : Nat → Nat} {ad : List Nat} {rs : List Int32} {sy : sx_Y} {outs : List sx_O}
theorem sx_nm_ok {v : Nat} {x : Value} {K : Nat → sx_R} (h : sx_nm sy v K = some outs) (hy : sx_Yok rs sy) (hv : sx_V b ad rs v x) : ∃ v', K v' = some outs ∧ sx_V b ad rs v' x ∧ (v' = v ∨ v' % 8 = 0) := by
  unfold sx_nm at h
  cases hc : Nat.beq (sx_tg v) 1 with
  | false => rw [hc] at h; exact ⟨v, h, hv, Or.inl rfl⟩
  | true =>
    rw [hc] at h
    obtain ⟨e, he, h⟩ := sx_opt_ok (show _ = some outs from h)
    rw [sx_nth_eq] at he
    have ht : v % 8 = 1 := sx_beq hc
    obtain ⟨z, hz, rfl⟩ := hv.t1 ht
    cases hd : Nat.beq e.1 e.2.1 with
    | false => rw [hd] at h; exact ⟨v, h, hv, Or.inl rfl⟩
    | true =>
      rw [hd] at h
      rw [sx_if_t, sx_fo_eq] at h
      obtain ⟨q1, q2, -⟩ := hy.2 _ z e hz he
      have q3 := sx_beq hd
      have q4 : sx_b z = e.1 := by omega
      refine ⟨_, h, Or.inl ⟨Nat.mul_mod_right 8 _, ?_⟩, Or.inr (Nat.mul_mod_right 8 _)⟩
      rw [← q4]
      show Value.int z = .int (Int32.ofNat (8 * sx_bs (sx_b z) / 8))
      rw [Nat.mul_div_cancel_left _ (by decide), sx_b_back]
theorem sx_rf_ok {k lo hi : Nat} {z : Int32} {K : sx_Y → sx_R} (h : sx_rf sy k lo hi K = some outs) (hy : sx_Yok rs sy) (hk : rs[k]? = some z) (h1 : lo ≤ sx_b z) (h2 : sx_b z ≤ hi) : ∃ sy', K sy' = some outs ∧ sx_Yok rs sy' ∧ sy'.length = sy.length ∧ (∃ p o, sy'[k]? = some (lo, hi, p, o)) ∧ ∀ j, j ≠ k → sy'[j]? = sy[j]? := by
  unfold sx_rf at h
  have hc : Nat.ble lo hi = true := Nat.ble_eq_true_of_le (Nat.le_trans h1 h2)
  rw [hc] at h
  obtain ⟨e, he, h⟩ := sx_opt_ok (show _ = some outs from h)
  rw [sx_nth_eq] at he
  simp only [sx_fo_eq, sx_stK_eq] at h
  exact ⟨_, h, hy.rf hk he h1 h2, by rw [List.length_set], ⟨_, _, List.getElem?_set_self (List.getElem?_eq_some_iff.mp he).1⟩, fun j hj => List.getElem?_set_ne (Ne.symm hj)⟩
theorem sx_mn_eq (a b : Nat) : sx_mn a b = min a b := by
  unfold sx_mn
  cases h : Nat.ble a b with
  | true => have := sx_ble h; rw [sx_if_t]; omega
  | false => have : ¬ a ≤ b := fun q => by rw [Nat.ble_eq_true_of_le q] at h; cases h
             rw [sx_if_f]; omega
theorem sx_mx_eq (a b : Nat) : sx_mx a b = max a b := by
  unfold sx_mx
  cases h : Nat.ble a b with
  | true => have := sx_ble h; rw [sx_if_t]; omega
  | false => have : ¬ a ≤ b := fun q => by rw [Nat.ble_eq_true_of_le q] at h; cases h
             rw [sx_if_f]; omega
theorem sx_en_ok {k lo hi : Nat} {z : Int32} {K : sx_Y → sx_R} (h : sx_en sy k lo hi K = some outs) (hy : sx_Yok rs sy) (hk : rs[k]? = some z) (h1 : lo ≤ sx_b z) (h2 : sx_b z ≤ hi) : ∃ sy' outs', K sy' = some outs' ∧ (∀ o ∈ outs', o ∈ outs) ∧ sx_Yok rs sy' ∧ sy'.length = sy.length ∧ (∃ p o, sy'[k]? = some (sx_b z, sx_b z, p, o)) ∧ ∀ j, j ≠ k → sy'[j]? = sy[j]? := by
  unfold sx_en at h
  obtain ⟨-, h⟩ := sx_if_ok h
  have key : ∀ (n : Nat) (outs : List sx_O), (Nat.rec (some []) (fun i ih => sx_app ih (sx_fo (Nat.add lo i) (fun x => sx_rf sy k x x K))) n : sx_R) = some outs → sx_b z < lo + n → ∃ sy' outs', K sy' = some outs' ∧ (∀ o ∈ outs', o ∈ outs) ∧ sx_Yok rs sy' ∧ sy'.length = sy.length ∧ (∃ p o, sy'[k]? = some (sx_b z, sx_b z, p, o)) ∧ ∀ j, j ≠ k → sy'[j]? = sy[j]? := by
    intro n
    induction n with
    | zero => intro outs _ hn; omega
    | succ n ih =>
      intro outs h hn
      obtain ⟨x, y, hx, hy', rfl⟩ := sx_app_ok h
      by_cases hz : sx_b z < lo + n
      · obtain ⟨sy', o', a1, a2, a3⟩ := ih x hx hz
        exact ⟨sy', o', a1, fun o ho => List.mem_append_left _ (a2 o ho), a3⟩
      · have hzn : lo + n = sx_b z := by omega
        rw [sx_fo_eq] at hy'
        have hy'' : sx_rf sy k (lo + n) (lo + n) K = some y := hy'
        rw [hzn] at hy''
        obtain ⟨sy', a1, a2, a3, a4, a5⟩ := sx_rf_ok hy'' hy hk (Nat.le_refl _) (Nat.le_refl _)
        exact ⟨sy', y, a1, fun o ho => List.mem_append_right _ ho, a2, a3, a4, a5⟩
  exact key _ outs h (by show sx_b z < lo + (hi + 1 - lo); omega)
theorem sx_sub_app_l {x y outs : List sx_O} (h : outs = x ++ y) : ∀ o ∈ x, o ∈ outs := fun o ho => by rw [h]; exact List.mem_append_left _ ho
theorem sx_sub_app_r {x y outs : List sx_O} (h : outs = x ++ y) : ∀ o ∈ y, o ∈ outs := fun o ho => by rw [h]; exact List.mem_append_right _ ho
theorem sx_ble_f {a b : Nat} (h : Nat.ble a b = false) : b < a := by
  rcases Nat.lt_or_ge b a with q | q
  · exact q
  · rw [Nat.ble_eq_true_of_le q] at h; cases h
theorem sx_blt_t {a b : Nat} (h : a < b) : Nat.blt a b = true := Nat.ble_eq_true_of_le h
theorem sx_blt_e {a b : Nat} (h : ¬ a < b) : Nat.blt a b = false := by
  cases q : Nat.blt a b with
  | true => exact absurd (sx_blt q) h
  | false => rfl
theorem sx_ble_e {a b : Nat} (h : ¬ a ≤ b) : Nat.ble a b = false := by
  cases q : Nat.ble a b with
  | true => exact absurd (sx_ble q) h
  | false => rfl
theorem sx_beq_t {a b : Nat} (h : a = b) : Nat.beq a b = true := by rw [h]; exact Nat.beq_refl b
theorem sx_beq_e {a b : Nat} (h : ¬ a = b) : Nat.beq a b = false := by
  cases q : Nat.beq a b with
  | true => exact absurd (sx_beq q) h
  | false => rfl
theorem sx_cs_ok {c k lo hi d : Nat} {z : Int32} {K : Bool → sx_Y → sx_R} (hc5 : c ≤ 5) (h : sx_cs c sy k lo hi d K = some outs) (hy : sx_Yok rs sy) (hk : rs[k]? = some z) (h1 : lo ≤ sx_b z) (h2 : sx_b z ≤ hi) : ∃ sy' outs', K (sx_cb c (sx_b z) d) sy' = some outs' ∧ (∀ o ∈ outs', o ∈ outs) ∧ sx_Yok rs sy' ∧ sy'.length = sy.length := by
  have fin : ∀ {lo' hi' : Nat} {t : Bool} {x : List sx_O}, sx_rf sy k lo' hi' (K t) = some x → lo' ≤ sx_b z → sx_b z ≤ hi' → (∀ o ∈ x, o ∈ outs) → t = sx_cb c (sx_b z) d → ∃ sy' outs', K (sx_cb c (sx_b z) d) sy' = some outs' ∧ (∀ o ∈ outs', o ∈ outs) ∧ sx_Yok rs sy' ∧ sy'.length = sy.length := by
    intro lo' hi' t x hx q1 q2 q3 q4
    obtain ⟨sy', a1, a2, a3, -⟩ := sx_rf_ok hx hy hk q1 q2
    exact ⟨sy', x, by rw [← q4]; exact a1, q3, a2, a3⟩
  unfold sx_cs at h
  rcases (show c = 0 ∨ c = 1 ∨ c = 2 ∨ c = 3 ∨ c = 4 ∨ c = 5 by omega) with rfl | rfl | rfl | rfl | rfl | rfl
  all_goals simp only [sx_mn_eq, sx_mx_eq] at h
  · obtain ⟨x, y, hx, hy2, e1⟩ := sx_app_ok (show _ = some outs from h)
    obtain ⟨y1, y2, hy3, hy4, e2⟩ := sx_app_ok hy2
    rcases Nat.lt_trichotomy (sx_b z) d with q | q | q
    · rw [sx_beq_e (show ¬ d = 0 by omega)] at hy3
      exact fin hy3 h1 (by show sx_b z ≤ min hi (d - 1); omega) (fun o ho => sx_sub_app_r e1 o (sx_sub_app_l e2 o ho)) (by show false = Nat.beq (sx_b z) d; rw [sx_beq_e (by omega)])
    · exact fin hx (by show max lo d ≤ sx_b z; omega) (by show sx_b z ≤ min hi d; omega) (sx_sub_app_l e1) (by show true = Nat.beq (sx_b z) d; rw [sx_beq_t q])
    · exact fin hy4 (by show max lo (d + 1) ≤ sx_b z; omega) h2 (fun o ho => sx_sub_app_r e1 o (sx_sub_app_r e2 o ho)) (by show false = Nat.beq (sx_b z) d; rw [sx_beq_e (by omega)])
  · obtain ⟨x, y, hx, hy2, e1⟩ := sx_app_ok (show _ = some outs from h)
    obtain ⟨y1, y2, hy3, hy4, e2⟩ := sx_app_ok hy2
    rcases Nat.lt_trichotomy (sx_b z) d with q | q | q
    · rw [sx_beq_e (show ¬ d = 0 by omega)] at hy3
      exact fin hy3 h1 (by show sx_b z ≤ min hi (d - 1); omega) (fun o ho => sx_sub_app_r e1 o (sx_sub_app_l e2 o ho)) (by show true = !Nat.beq (sx_b z) d; rw [sx_beq_e (by omega)]; rfl)
    · exact fin hx (by show max lo d ≤ sx_b z; omega) (by show sx_b z ≤ min hi d; omega) (sx_sub_app_l e1) (by show false = !Nat.beq (sx_b z) d; rw [sx_beq_t q]; rfl)
    · exact fin hy4 (by show max lo (d + 1) ≤ sx_b z; omega) h2 (fun o ho => sx_sub_app_r e1 o (sx_sub_app_r e2 o ho)) (by show true = !Nat.beq (sx_b z) d; rw [sx_beq_e (by omega)]; rfl)
  · obtain ⟨x, y, hx, hy2, e1⟩ := sx_app_ok (show _ = some outs from h)
    rcases Nat.lt_or_ge (sx_b z) d with q | q
    · rw [sx_beq_e (show ¬ d = 0 by omega)] at hx
      exact fin hx h1 (by show sx_b z ≤ min hi (d - 1); omega) (sx_sub_app_l e1) (by show true = Nat.blt (sx_b z) d; rw [sx_blt_t q])
    · exact fin hy2 (by show max lo d ≤ sx_b z; omega) h2 (sx_sub_app_r e1) (by show false = Nat.blt (sx_b z) d; rw [sx_blt_e (by omega)])
  · obtain ⟨x, y, hx, hy2, e1⟩ := sx_app_ok (show _ = some outs from h)
    rcases Nat.lt_or_ge (sx_b z) d with q | q
    · rw [sx_beq_e (show ¬ d = 0 by omega)] at hx
      exact fin hx h1 (by show sx_b z ≤ min hi (d - 1); omega) (sx_sub_app_l e1) (by show false = Nat.ble d (sx_b z); rw [sx_ble_e (by omega)])
    · exact fin hy2 (by show max lo d ≤ sx_b z; omega) h2 (sx_sub_app_r e1) (by show true = Nat.ble d (sx_b z); rw [Nat.ble_eq_true_of_le q])
  · obtain ⟨x, y, hx, hy2, e1⟩ := sx_app_ok (show _ = some outs from h)
    rcases Nat.lt_or_ge d (sx_b z) with q | q
    · exact fin hy2 (by show max lo (d + 1) ≤ sx_b z; omega) h2 (sx_sub_app_r e1) (by show true = Nat.blt d (sx_b z); rw [sx_blt_t q])
    · exact fin hx h1 (by show sx_b z ≤ min hi d; omega) (sx_sub_app_l e1) (by show false = Nat.blt d (sx_b z); rw [sx_blt_e (by omega)])
  · obtain ⟨x, y, hx, hy2, e1⟩ := sx_app_ok (show _ = some outs from h)
    rcases Nat.lt_or_ge d (sx_b z) with q | q
    · exact fin hy2 (by show max lo (d + 1) ≤ sx_b z; omega) h2 (sx_sub_app_r e1) (by show false = Nat.ble (sx_b z) d; rw [sx_ble_e (by omega)])
    · exact fin hx h1 (by show sx_b z ≤ min hi d; omega) (sx_sub_app_l e1) (by show true = Nat.ble (sx_b z) d; rw [Nat.ble_eq_true_of_le q])
end SXNum
