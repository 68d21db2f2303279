/-! fx: the living on both sides are one, and their votes -/
theorem lv_div (t : Nat → Int) : ∀ n : Nat, ∀ p : Nat, p < n → lvN t n / 2 ^ p % 2 = if t (17 + 7 * p) = 1 then 0 else 1
  | 0, p, h => absurd h (Nat.not_lt_zero p)
  | n + 1, p, h => by
    have hl := lvN_lt t n
    show (lvN t n + (if t (17 + 7 * n) = 1 then 0 else 2 ^ n)) / 2 ^ p % 2 = _
    by_cases e : p = n
    · subst e
      by_cases c : t (17 + 7 * p) = 1
      · rw [if_pos c, if_pos c, Nat.add_zero, Nat.div_eq_of_lt hl]
      · rw [if_neg c, if_neg c, Nat.add_div_right _ (Nat.two_pow_pos p), Nat.div_eq_of_lt hl]
    · have ih := lv_div t n p (by omega)
      by_cases c : t (17 + 7 * n) = 1
      · rw [if_pos c, Nat.add_zero]; exact ih
      · rw [if_neg c]
        have e2 : (2 : Nat) ^ n = 2 ^ p * (2 * 2 ^ (n - p - 1)) := by
          rw [← Nat.mul_assoc, ← Nat.pow_succ, ← Nat.pow_add]
          congr 1
          omega
        rw [e2, Nat.add_mul_div_left _ _ (Nat.two_pow_pos p), Nat.add_mul_mod_self_left]
        exact ih
theorem lv_fbt {t : Nat → Int} {n p : Nat} (hn : n ≤ 8) (hp : p < n) : fbt ((lvN t n : Nat) : Int) (p : Int) = if t (17 + 7 * p) = 1 then 0 else 1 := by
  have l := lvN_lt t n
  have l2 : 2 ^ n ≤ 256 := by
    have : 2 ^ n ≤ 2 ^ 8 := Nat.pow_le_pow_right (by decide) hn
    exact this
  have q := of_decide_eq_true (List.all_eq_true.mp (List.all_eq_true.mp lv_bit (lvN t n) (List.mem_range.mpr (by omega))) p (List.mem_range.mpr (by omega)))
  rw [q, lv_div t n p hp]
  split <;> rfl
theorem vs_lv {t v : Nat → Int} {n : Nat} (hn : n ≤ 8) (hv : ∀ p : Nat, p < 8 → v p = t (13 + 7 * p)) : ∀ k, k ≤ n → vsC v ((lvN t n : Nat) : Int) k = vsM t ((lvN t n : Nat) : Int) k
  | 0, _ => rfl
  | k + 1, hk => by
    have f := lv_fbt (t := t) hn (show k < n by omega)
    show vsC v _ k + (if fbt ((lvN t n : Nat) : Int) (k : Int) = 0 then 0 else v k) = vsM t _ k + (if fbt ((lvN t n : Nat) : Int) (k : Int) = 0 ∨ t (17 + 7 * k) = 1 then 0 else t (13 + 7 * k))
    rw [vs_lv hn hv k (by omega), hv k (by omega), f]
    by_cases c : t (17 + 7 * k) = 1
    · rw [if_pos c, if_pos rfl, if_pos (Or.inl rfl)]
    · rw [if_neg c, if_neg (by decide), if_neg (fun q => q.elim (by decide) c)]
