/-! fx: how far two places are, on both sides -/
theorem fbt_lsb (x : Int) {p : Nat} (hp : p < 8) : fbt x (p : Int) = if (Int32.ofInt x).toBitVec.getLsbD p then 1 else 0 := by
  have e : fbt x (p : Int) = (Int32.ofInt ((Int32.ofInt x >>> (Int32.ofInt (p : Int) &&& 31)).toInt) &&& Int32.ofInt 1).toInt := rfl
  rw [e, Int32.ofInt_toInt]
  show (Int32.ofInt x >>> (Int32.ofInt (p : Int) &&& 31) &&& Int32.ofInt 1).toBitVec.toInt = _
  rw [Int32.toBitVec_and, Int32.toBitVec_shiftRight]
  have hs : ((Int32.ofInt (p : Int) &&& 31).toBitVec.smod 32) = BitVec.ofNat 32 p := by
    have h : ∀ q : Fin 8, ((Int32.ofInt ((q.val : Nat) : Int) &&& 31).toBitVec.smod 32) = BitVec.ofNat 32 q.val := by decide +kernel
    exact h ⟨p, hp⟩
  rw [hs]
  have h1 : (Int32.ofInt 1).toBitVec = 1#32 := by decide
  rw [h1, BitVec.and_one_eq_setWidth_ofBool_getLsbD]
  have h2 : ((Int32.ofInt x).toBitVec.sshiftRight' (BitVec.ofNat 32 p)).getLsbD 0 = (Int32.ofInt x).toBitVec.getLsbD p := by
    have t : (BitVec.ofNat 32 p).toNat = p := by rw [BitVec.toNat_ofNat]; omega
    unfold BitVec.sshiftRight'
    rw [t, BitVec.getLsbD_sshiftRight]
    simp
    intro q
    omega
  rw [h2]
  cases (Int32.ofInt x).toBitVec.getLsbD p <;> decide
theorem fbt_or (x y : Int) {p : Nat} (hp : p < 8) : fbt (fop 4 x y) (p : Int) = 1 ↔ fbt x (p : Int) = 1 ∨ fbt y (p : Int) = 1 := by
  rw [fbt_lsb _ hp, fbt_lsb _ hp, fbt_lsb _ hp]
  have e : Int32.ofInt (fop 4 x y) = Int32.ofInt x ||| Int32.ofInt y := by
    have e1 : fop 4 x y = (Int32.ofInt x ||| Int32.ofInt y).toInt := rfl
    rw [e1, Int32.ofInt_toInt]
  rw [e, Int32.toBitVec_or, BitVec.getLsbD_or]
  cases (Int32.ofInt x).toBitVec.getLsbD p <;> cases (Int32.ofInt y).toBitVec.getLsbD p <;> decide
theorem f_shl8 : ∀ q : Fin 8, fop 6 1 ((q.val : Nat) : Int) = ((2 ^ q.val : Nat) : Int) := by decide +kernel
theorem f_lsb8 : ∀ a p : Fin 8, (Int32.ofInt ((2 ^ a.val : Nat) : Int)).toBitVec.getLsbD p.val = decide (p.val = a.val) := by decide +kernel
theorem fbt_sh {a p : Nat} (ha : a < 8) (hp : p < 8) : fbt (fop 6 1 (a : Int)) (p : Int) = 1 ↔ p = a := by
  rw [f_shl8 ⟨a, ha⟩, fbt_lsb _ hp, f_lsb8 ⟨a, ha⟩ ⟨p, hp⟩]
  by_cases h : p = a
  · simp [h]
  · simp [h]
/-- places where one can be by n roads at most -/
def pS (rd : Nat → Int) (a : Nat) : Nat → Nat → Prop
  | 0, p => p = a
  | n + 1, p => pS rd a n p ∨ ∃ q, q < 8 ∧ pS rd a n q ∧ fbt (rd q) (p : Int) = 1
theorem pS_mono {rd : Nat → Int} {a p : Nat} : ∀ {m n : Nat}, n ≤ m → pS rd a n p → pS rd a m p
  | 0, n, h, q => by
    have e : n = 0 := by omega
    subst e; exact q
  | m + 1, n, h, q => by
    by_cases e : n = m + 1
    · subst e; exact q
    · exact Or.inl (pS_mono (m := m) (by omega) q)
/-- by n roads, and by no fewer -/
def pE (rd : Nat → Int) (a n p : Nat) : Prop := pS rd a n p ∧ ∀ i, i < n → ¬ pS rd a i p
theorem pE_ex {rd : Nat → Int} {a p : Nat} : ∀ {n : Nat}, pS rd a n p → ∃ i, i ≤ n ∧ pE rd a i p
  | 0, h => ⟨0, Nat.le_refl _, h, fun i hi => absurd hi (Nat.not_lt_zero _)⟩
  | n + 1, h => by
    by_cases q : pS rd a n p
    · obtain ⟨i, h1, h2⟩ := pE_ex q
      exact ⟨i, by omega, h2⟩
    · exact ⟨n + 1, Nat.le_refl _, h, fun i hi t => q (pS_mono (by omega) t)⟩
theorem pE_uniq {rd : Nat → Int} {a p i j : Nat} (h1 : pE rd a i p) (h2 : pE rd a j p) : i = j := by
  rcases Nat.lt_trichotomy i j with h | h | h
  · exact absurd h1.1 (h2.2 i h)
  · exact h
  · exact absurd h2.1 (h1.2 j h)
noncomputable def pD (rd : Nat → Int) (a b : Nat) : Nat → Nat → Int
  | 0, _ => -1
  | l + 1, n => @ite Int (pS rd a n b) (Classical.propDecidable _) (n : Int) (pD rd a b l (n + 1))
theorem pD_b (rd : Nat → Int) (a b : Nat) : ∀ l n : Nat, -1 ≤ pD rd a b l n ∧ pD rd a b l n ≤ n + l
  | 0, n => ⟨Int.le_refl _, by show (-1 : Int) ≤ n + 0; omega⟩
  | l + 1, n => by
    classical
    have h := pD_b rd a b l (n + 1)
    have e : pD rd a b (l + 1) n = if pS rd a n b then (n : Int) else pD rd a b l (n + 1) := rfl
    rw [e]
    split <;> omega
/-- what the reference's row says behind n rounds -/
def pF (rd : Nat → Int) (a n : Nat) (F : Nat → Int) : Prop := ∀ p : Nat, p < 8 → (pS rd a n p → ∃ i : Nat, i ≤ n ∧ F p = (i : Int) ∧ pE rd a i p) ∧ (¬ pS rd a n p → F p = -1)
theorem pF_D {rd : Nat → Int} {a b : Nat} {F : Nat → Int} (h : pF rd a 7 F) (hb : b < 8) : ∀ l n : Nat, n + l = 8 → (∀ i, i < n → ¬ pS rd a i b) → pD rd a b l n = F b
  | 0, n, hn, hi => by
    have e : n = 8 := by omega
    subst e
    show (-1 : Int) = F b
    exact ((h b hb).2 (hi 7 (by omega))).symm
  | l + 1, n, hn, hi => by
    classical
    have e : pD rd a b (l + 1) n = if pS rd a n b then (n : Int) else pD rd a b l (n + 1) := rfl
    rw [e]
    by_cases q : pS rd a n b
    · rw [if_pos q]
      obtain ⟨i, h1, h2, h3⟩ := (h b hb).1 (pS_mono (by omega) q)
      rw [h2, pE_uniq h3 ⟨q, hi⟩]
    · rw [if_neg q]
      exact pF_D h hb l (n + 1) (by omega) (fun i h1 => by
        by_cases t : i = n
        · subst t; exact q
        · exact hi i (by omega))
/-- within round n + 1, at the road from k to o -/
def pX (rd : Nat → Int) (a n k o p : Nat) : Prop := ∃ q, q < 8 ∧ (q < k ∨ (q = k ∧ p < o)) ∧ pE rd a n q ∧ fbt (rd q) (p : Int) = 1
def pG (rd : Nat → Int) (a n k o : Nat) (F : Nat → Int) : Prop := ∀ p : Nat, p < 8 → (pS rd a n p → ∃ i : Nat, i ≤ n ∧ F p = (i : Int) ∧ pE rd a i p) ∧ (¬ pS rd a n p → (F p = (n : Int) + 1 ∧ pX rd a n k o p) ∨ (F p = -1 ∧ ¬ pX rd a n k o p))
theorem pG_0 {rd : Nat → Int} {a n : Nat} {F : Nat → Int} (h : pF rd a n F) : pG rd a n 0 0 F := fun p hp => ⟨(h p hp).1, fun t => Or.inr ⟨(h p hp).2 t, fun ⟨q, _, q2, _⟩ => by omega⟩⟩
theorem pG_8 {rd : Nat → Int} {a n : Nat} {F : Nat → Int} (h : pG rd a n 8 0 F) : pF rd a (n + 1) F := fun p hp => by
  obtain ⟨h1, h2⟩ := h p hp
  refine ⟨fun t => ?_, fun t => ?_⟩
  · by_cases q : pS rd a n p
    · obtain ⟨i, i1, i2, i3⟩ := h1 q
      exact ⟨i, by omega, i2, i3⟩
    · rcases t with t | ⟨q', q1, q2, q3⟩
      · exact absurd t q
      · have ee : pE rd a n q' := by
          refine ⟨q2, fun i hi t2 => q ?_⟩
          exact pS_mono (n := i + 1) (by omega) (Or.inr ⟨q', q1, t2, q3⟩)
        rcases h2 q with ⟨f1, -⟩ | ⟨-, f2⟩
        · exact ⟨n + 1, Nat.le_refl _, by rw [f1]; rfl, Or.inr ⟨q', q1, q2, q3⟩, fun i hi t2 => q (pS_mono (by omega) t2)⟩
        · exact absurd ⟨q', q1, Or.inl q1, ee, q3⟩ f2
  · rcases h2 (fun q => t (Or.inl q)) with ⟨-, q', q1, -, q3, q4⟩ | ⟨f1, -⟩
    · exact absurd (Or.inr ⟨q', q1, q3.1, q4⟩) t
    · exact f1
theorem pX_k {rd : Nat → Int} {a n k p : Nat} (hp : p < 8) (hk : k < 8) : pX rd a n k 8 p ↔ pX rd a n (k + 1) 0 p :=
  ⟨fun ⟨q, q1, q2, q3⟩ => ⟨q, q1, by omega, q3⟩, fun ⟨q, q1, q2, q3⟩ => ⟨q, q1, by omega, q3⟩⟩
theorem pG_k {rd : Nat → Int} {a n k : Nat} {F : Nat → Int} (hk : k < 8) (h : pG rd a n k 8 F) : pG rd a n (k + 1) 0 F := fun p hp => ⟨(h p hp).1, fun t => by
  rw [← pX_k hp hk]
  exact (h p hp).2 t⟩
theorem pX_o {rd : Nat → Int} {a n k o p : Nat} (hk : k < 8) : pX rd a n k (o + 1) p ↔ pX rd a n k o p ∨ (p = o ∧ pE rd a n k ∧ fbt (rd k) (p : Int) = 1) := by
  constructor
  · rintro ⟨q, q1, q2, q3, q4⟩
    by_cases t : q = k ∧ p = o
    · obtain ⟨rfl, rfl⟩ := t
      exact Or.inr ⟨rfl, q3, q4⟩
    · exact Or.inl ⟨q, q1, by omega, q3, q4⟩
  · rintro (⟨q, q1, q2, q3⟩ | ⟨rfl, q3, q4⟩)
    · exact ⟨q, q1, by omega, q3⟩
    · exact ⟨k, hk, Or.inr ⟨rfl, by omega⟩, q3, q4⟩
/-- the test of far[k] says whether k lies just n roads away -/
theorem pG_t {rd : Nat → Int} {a n k o p : Nat} {F : Nat → Int} (h : pG rd a n k o F) (hp : p < 8) : F p = (n : Int) ↔ pE rd a n p := by
  obtain ⟨h1, h2⟩ := h p hp
  by_cases q : pS rd a n p
  · obtain ⟨i, i1, i2, i3⟩ := h1 q
    constructor
    · intro t
      have e : i = n := by omega
      rw [← e]; exact i3
    · intro t
      rw [i2, pE_uniq i3 t]
  · constructor
    · intro t
      rcases h2 q with ⟨f1, -⟩ | ⟨f1, -⟩ <;> omega
    · intro t
      exact absurd t.1 q
/-- nothing is set at the road from k to o -/
theorem pG_n {rd : Nat → Int} {a n k o : Nat} {F : Nat → Int} (hk : k < 8) (h : pG rd a n k o F) (ho : o < 8) (t : ¬ (F k = (n : Int) ∧ fbt (rd k) (o : Int) = 1 ∧ F o = -1)) : pG rd a n k (o + 1) F := fun p hp => by
  obtain ⟨h1, h2⟩ := h p hp
  refine ⟨h1, fun q => ?_⟩
  rw [pX_o hk]
  rcases h2 q with ⟨f1, f2⟩ | ⟨f1, f2⟩
  · exact Or.inl ⟨f1, Or.inl f2⟩
  · refine Or.inr ⟨f1, fun u => ?_⟩
    rcases u with u | ⟨rfl, u1, u2⟩
    · exact f2 u
    · exact t ⟨(pG_t h hk).mpr u1, u2, f1⟩
/-- o is set -/
theorem pG_y {rd : Nat → Int} {a n k o : Nat} {F F' : Nat → Int} (hk : k < 8) (h : pG rd a n k o F) (ho : o < 8) (t1 : F k = (n : Int)) (t2 : fbt (rd k) (o : Int) = 1) (t3 : F o = -1) (e1 : F' o = (n : Int) + 1) (e2 : ∀ p, p ≠ o → F' p = F p) : pG rd a n k (o + 1) F' := fun p hp => by
  obtain ⟨h1, h2⟩ := h p hp
  by_cases e : p = o
  · subst e
    refine ⟨fun q => ?_, fun q => Or.inl ⟨e1, (pX_o hk).mpr (Or.inr ⟨rfl, (pG_t h hk).mp t1, t2⟩)⟩⟩
    obtain ⟨i, i1, i2, i3⟩ := h1 q
    omega
  · rw [e2 p e]
    refine ⟨h1, fun q => ?_⟩
    rw [pX_o hk]
    rcases h2 q with ⟨f1, f2⟩ | ⟨f1, f2⟩
    · exact Or.inl ⟨f1, Or.inl f2⟩
    · exact Or.inr ⟨f1, fun u => u.elim f2 (fun u => e u.1)⟩
section G19
variable {W : ax_W} {r : Nat} {g : Nat → Nat → Int} {Q : Nat → Nat → (Nat → Nat → Int) → Prop}
theorem sp_reach_1 {pl : Int} (hpl : fR pl) (kq : ∀ z, fR z → (∀ p : Nat, p < 8 → (fbt z (p : Int) = 1 ↔ fbt pl (p : Int) = 1 ∨ ∃ q : Nat, q < 8 ∧ fbt pl (q : Int) = 1 ∧ fbt (g 7 q) (p : Int) = 1)) → Q 1 (fI z) g) : ∀ (l k : Nat) (z : Int), k + l = 8 → fR z → (∀ p : Nat, p < 8 → (fbt z (p : Int) = 1 ↔ fbt pl (p : Int) = 1 ∨ ∃ q : Nat, q < k ∧ fbt pl (q : Int) = 1 ∧ fbt (g 7 q) (p : Int) = 1)) → fx W r 1 135 4 [26, fI pl, fI z, fI (k : Int)] [] g Q
  | l, k, z, hl, hz, hi => by
    refine fx_li 3 5 (by decide +kernel) rfl ?_
    refine fx_ci (8) 7 (by decide +kernel) ?_
    refine fx_ige 33 10 (by decide +kernel) (by unfold fR; omega) (by unfold fR; omega) (fun h7 => ?_) (fun h7 => ?_)
    · refine fx_li 2 34 (by decide +kernel) rfl ?_
      refine fx_ret (by decide +kernel) ?_
      have e : k = 8 := by omega
      subst e
      exact kq z hz hi
    · refine fx_li 1 11 (by decide +kernel) rfl ?_
      refine fx_li 3 12 (by decide +kernel) rfl ?_
      refine fx_c2 23 22 15 0 [] (f_q22 (by decide +kernel)) (by decide) (fI_n4 _) (fI_n4 _) rfl (by first | decide | omega) ?_
      refine sp_chas (fK1 ?_)
      have h01 := fbt_01 pl (k : Int)
      refine fx_zeq 27 18 (by decide +kernel) (by unfold fR; omega) (fun h15 => ?_) (fun h15 => ?_)
      · refine fx_inc 3 30 (1) (by decide +kernel) rfl (Or.inr (fI_n4 _)) rfl ?_
        dsimp only [List.set]
        refine fx_go 4 (by decide +kernel) ?_
        match l, hl with
        | 0, hl => exfalso; omega
        | l + 1, hl =>
          refine sp_reach_1 hpl kq l (k + 1) z (by omega) hz (fun p hp => (hi p hp).trans ⟨fun t => ?_, fun t => ?_⟩)
          · rcases t with t | ⟨q, q1, q2, q3⟩
            · exact Or.inl t
            · exact Or.inr ⟨q, by omega, q2, q3⟩
          · rcases t with t | ⟨q, q1, q2, q3⟩
            · exact Or.inl t
            · by_cases e : q = k
              · subst e; omega
              · exact Or.inr ⟨q, by omega, q2, q3⟩
      · refine fx_li 2 19 (by decide +kernel) rfl ?_
        refine fx_la 0 20 (v := 26) (by decide +kernel) rfl (by decide +kernel) ?_
        refine fx_gp 26 3 3 58 23 (by decide +kernel) ?_
        refine fx_li 3 24 (by decide +kernel) rfl ?_
        refine fx_al 58 7 8 25 (by decide +kernel) rfl (by omega) (by omega) rfl ?_
        try simp only [fu_app, fcy_app, Nat.reduceEqDiff, and_true, and_false, false_and, true_and, if_true, if_false, ite_true, ite_false, reduceIte, Int.reduceToNat, fx_simp0]
        rw [show ((k : Int)).toNat = k from rfl]
        refine fx_bin 4 26 (by decide +kernel) rfl (fun h => absurd h (by decide)) ?_
        refine fx_si 2 27 (by decide +kernel) (Or.inr (fI_n4 _)) rfl ?_
        dsimp only [List.set]
        refine fx_inc 3 30 (1) (by decide +kernel) rfl (Or.inr (fI_n4 _)) rfl ?_
        dsimp only [List.set]
        refine fx_go 4 (by decide +kernel) ?_
        have hor : ∀ p : Nat, p < 8 → (fbt (fop 4 z (g 7 k)) (p : Int) = 1 ↔ fbt z (p : Int) = 1 ∨ fbt (g 7 k) (p : Int) = 1) := fun p hp => fbt_or z (g 7 k) hp
        have hzr : fR (fop 4 z (g 7 k)) := fop_R 4 z (g 7 k)
        generalize fop 4 z (g 7 k) = z' at hor hzr ⊢
        match l, hl with
        | 0, hl => exfalso; omega
        | l + 1, hl =>
          refine sp_reach_1 hpl kq l (k + 1) z' (by omega) hzr (fun p hp => (hor p hp).trans ⟨fun t => ?_, fun t => ?_⟩)
          · rcases t with t | t
            · rcases (hi p hp).mp t with t | ⟨q, q1, q2, q3⟩
              · exact Or.inl t
              · exact Or.inr ⟨q, by omega, q2, q3⟩
            · exact Or.inr ⟨k, by omega, by omega, t⟩
          · rcases t with t | ⟨q, q1, q2, q3⟩
            · exact Or.inl ((hi p hp).mpr (Or.inl t))
            · by_cases e : q = k
              · subst e
                exact Or.inr q3
              · exact Or.inl ((hi p hp).mpr (Or.inr ⟨q, by omega, q2, q3⟩))
theorem sp_reach {pl : Int} (hpl : fR pl) (kq : ∀ z, fR z → (∀ p : Nat, p < 8 → (fbt z (p : Int) = 1 ↔ fbt pl (p : Int) = 1 ∨ ∃ q : Nat, q < 8 ∧ fbt pl (q : Int) = 1 ∧ fbt (g 7 q) (p : Int) = 1)) → Q 1 (fI z) g) : fx W r 1 135 0 [26, fI pl, 7, 7] [] g Q := by
  refine fx_li 1 1 (by decide +kernel) rfl ?_
  refine fx_si 2 2 (by decide +kernel) (Or.inr (fI_n4 _)) rfl ?_
  dsimp only [List.set]
  refine fx_ci (0) 3 (by decide +kernel) ?_
  refine fx_si 3 4 (by decide +kernel) (Or.inr (fI_n4 _)) rfl ?_
  dsimp only [List.set]
  exact sp_reach_1 hpl kq 8 0 pl rfl hpl (fun p hp => ⟨fun t => Or.inl t, fun t => t.elim id (fun ⟨q, q1, _⟩ => absurd q1 (Nat.not_lt_zero _))⟩)
theorem sp_dist_1 {a b : Nat} (ha : a < 8) (hb : b < 8) (kq : Q 1 (fI (pD (g 7) a b 8 0)) g) : ∀ (l n : Nat) (z : Int), n + l = 8 → fR z → (∀ p : Nat, p < 8 → (fbt z (p : Int) = 1 ↔ pS (g 7) a n p)) → pD (g 7) a b l n = pD (g 7) a b 8 0 → fx W r 2 134 7 [26, fI (a : Int), fI (b : Int), fI z, fI (n : Int)] [] g Q
  | l, n, z, hl, hz, hi, e => by
    classical
    refine fx_li 4 9 (by decide +kernel) rfl ?_
    refine fx_ci (8) 11 (by decide +kernel) ?_
    refine fx_ige 37 14 (by decide +kernel) (by unfold fR; omega) (by unfold fR; omega) (fun h11 => ?_) (fun h11 => ?_)
    · refine fx_ci (-1) 38 (by decide +kernel) ?_
      refine fx_ret (by decide +kernel) ?_
      have e0 : l = 0 := by omega
      subst e0
      rw [← e] at kq
      exact kq
    · refine fx_li 3 15 (by decide +kernel) rfl ?_
      refine fx_li 2 16 (by decide +kernel) rfl ?_
      refine fx_c2 23 22 19 0 [] (f_q22 (by decide +kernel)) (by decide) (fI_n4 _) (fI_n4 _) rfl (by first | decide | omega) ?_
      refine sp_chas (fK1 ?_)
      have h01 := fbt_01 z (b : Int)
      refine fx_zeq 25 22 (by decide +kernel) (by unfold fR; omega) (fun h19 => ?_) (fun h19 => ?_)
      · refine fx_la 0 26 (v := 26) (by decide +kernel) rfl (by decide +kernel) ?_
        refine fx_li 3 27 (by decide +kernel) rfl ?_
        refine fx_c2 135 21 30 1 [7, 7] (by decide +kernel) (by decide) (by decide) (fI_n4 _) rfl (by first | decide | omega) ?_
        refine sp_reach hz (fun z' hz' hi' => fK1 ?_)
        refine fx_si 3 31 (by decide +kernel) (Or.inr (fI_n4 _)) rfl ?_
        dsimp only [List.set]
        refine fx_inc 4 34 (1) (by decide +kernel) rfl (Or.inr (fI_n4 _)) rfl ?_
        dsimp only [List.set]
        refine fx_go 7 (by decide +kernel) ?_
        match l, hl, e with
        | 0, hl, e => exfalso; omega
        | l + 1, hl, e =>
          have e1 : pD (g 7) a b (l + 1) n = pD (g 7) a b l (n + 1) := if_neg (fun t => by have := (hi b hb).mpr t; omega)
          refine sp_dist_1 ha hb kq l (n + 1) z' (by omega) hz' (fun p hp => (hi' p hp).trans ⟨fun t => ?_, fun t => ?_⟩) (e1.symm.trans e)
          · rcases t with t | ⟨q, q1, q2, q3⟩
            · exact Or.inl ((hi p hp).mp t)
            · exact Or.inr ⟨q, q1, (hi q q1).mp q2, q3⟩
          · rcases t with t | ⟨q, q1, q2, q3⟩
            · exact Or.inl ((hi p hp).mpr t)
            · exact Or.inr ⟨q, q1, (hi q q1).mpr q2, q3⟩
      · refine fx_li 4 24 (by decide +kernel) rfl ?_
        refine fx_ret (by decide +kernel) ?_
        match l, hl, e with
        | 0, hl, e => exfalso; omega
        | l + 1, hl, e =>
          have e1 : pD (g 7) a b (l + 1) n = (n : Int) := if_pos ((hi b hb).mp (by omega))
          rw [← e, e1] at kq
          exact kq
theorem sp_dist {a b : Nat} (ha : a < 8) (hb : b < 8) (kq : Q 1 (fI (pD (g 7) a b 8 0)) g) : fx W r 2 134 0 [26, fI (a : Int), fI (b : Int), 7, 7] [] g Q := by
  refine fx_ci (1) 1 (by decide +kernel) ?_
  refine fx_li 1 2 (by decide +kernel) rfl ?_
  refine fx_bin 6 3 (by decide +kernel) rfl (fun h => absurd h (by decide)) ?_
  refine fx_si 3 4 (by decide +kernel) (Or.inr (fI_n4 _)) rfl ?_
  dsimp only [List.set]
  refine fx_ci (0) 5 (by decide +kernel) ?_
  refine fx_si 4 7 (by decide +kernel) (Or.inr (fI_n4 _)) rfl ?_
  dsimp only [List.set]
  exact sp_dist_1 ha hb kq 8 0 (fop 6 1 (a : Int)) rfl (fop_R 6 1 (a : Int)) (fun p hp => fbt_sh ha hp) rfl
def fFA (g g' : Nat → Nat → Int) : Prop := ∀ c j, c ≠ 155 → g' c j = g c j
theorem fFA.fu {g g' : Nat → Nat → Int} {j : Nat} {z : Int} (h : fFA g g') : fFA g (fu g' 155 j z) := fun c j' hc => by rw [fu_nc hc]; exact h c j' hc
theorem sp_fars_0 {a : Nat} (kq : ∀ (g' : Nat → Nat → Int) (x3 x4 : Nat), fFA g g' → pF (fun q => g 149 (116 + q)) a 0 (g' 155) → fx W r 1 310 32 [1186, fI (a : Int), fI 1, x3, x4] [] g' Q) (ha : a < 8) : ∀ (l k : Nat) (x3 x4 : Nat) (g' : Nat → Nat → Int), k + l = 8 → fFA g g' → (∀ p : Nat, p < k → g' 155 p = if p = a then 0 else -1) → fx W r 1 310 2 [1186, fI (a : Int), fI (k : Int), x3, x4] [] g' Q
  | l, k, x3, x4, g', hl, hf, hi => by
    refine fx_li 2 3 (by decide +kernel) rfl ?_
    refine fx_ci (8) 5 (by decide +kernel) ?_
    refine fx_ige 30 8 (by decide +kernel) (by unfold fR; omega) (by unfold fR; omega) (fun h5 => ?_) (fun h5 => ?_)
    · refine fx_ci (1) 31 (by decide +kernel) ?_
      refine fx_si 2 32 (by decide +kernel) (Or.inr (fI_n4 _)) rfl ?_
      dsimp only [List.set]
      refine kq g' _ _ hf (fun p hp => ⟨fun t => ⟨0, Nat.le_refl _, ?_, t, fun i hi => absurd hi (Nat.not_lt_zero _)⟩, fun t => ?_⟩)
      · rw [hi p (by omega), if_pos (show p = a from t)]; rfl
      · rw [hi p (by omega), if_neg (show ¬ p = a from t)]
    · refine fx_la 0 9 (v := 1186) (by decide +kernel) rfl (by decide +kernel) ?_
      refine fx_gp 1186 148 20 1242 12 (by decide +kernel) ?_
      refine fx_li 2 13 (by decide +kernel) rfl ?_
      refine fx_li 2 14 (by decide +kernel) rfl ?_
      refine fx_li 1 15 (by decide +kernel) rfl ?_
      refine fx_ine 22 18 (by decide +kernel) (by unfold fR; omega) (by unfold fR; omega) (fun h15 => ?_) (fun h15 => ?_)
      · refine fx_cn (-1) 23 (by decide +kernel) (fun v22 c22 => ?_)
        refine fx_as 1242 155 8 24 (by decide +kernel) rfl (by omega) (by omega) rfl (by unfold fR; omega) ?_
        refine fx_inc 2 27 (1) (by decide +kernel) rfl (Or.inr (fI_n4 _)) rfl ?_
        dsimp only [List.set]
        refine fx_go 2 (by decide +kernel) ?_
        match l, hl with
        | 0, hl => exfalso; omega
        | l + 1, hl =>
          refine sp_fars_0 kq ha l (k + 1) _ _ _ (by omega) hf.fu (fun p hp => ?_)
          by_cases e : p = k
          · subst e
            have e2 : ¬ p = a := by omega
            rw [show ((p : Int)).toNat = p from rfl, fu_eq, if_neg e2, c22]
          · rw [show ((k : Int)).toNat = k from rfl, fu_nj e, hi p (by omega)]
      · refine fx_ci (0) 19 (by decide +kernel) ?_
        refine fx_go 23 (by decide +kernel) ?_
        refine fx_as 1242 155 8 24 (by decide +kernel) rfl (by omega) (by omega) rfl (by unfold fR; omega) ?_
        refine fx_inc 2 27 (1) (by decide +kernel) rfl (Or.inr (fI_n4 _)) rfl ?_
        dsimp only [List.set]
        refine fx_go 2 (by decide +kernel) ?_
        match l, hl with
        | 0, hl => exfalso; omega
        | l + 1, hl =>
          refine sp_fars_0 kq ha l (k + 1) _ _ _ (by omega) hf.fu (fun p hp => ?_)
          by_cases e : p = k
          · subst e
            have e2 : p = a := by omega
            rw [show ((p : Int)).toNat = p from rfl, fu_eq, if_pos e2]
          · rw [show ((k : Int)).toNat = k from rfl, fu_nj e, hi p (by omega)]
theorem sp_fars_3 {a n k : Nat} (hn : n < 7) (hk : k < 8) (kq : ∀ (g' : Nat → Nat → Int) (x4 : Nat), fFA g g' → pG (fun q => g 149 (116 + q)) a n k 8 (g' 155) → fx W r 1 310 40 [1186, fI (a : Int), fI ((n : Int) + 1), fI ((k : Int) + 1), x4] [] g' Q) : ∀ (l o : Nat) (g' : Nat → Nat → Int), o + l = 8 → fFA g g' → pG (fun q => g 149 (116 + q)) a n k o (g' 155) → fx W r 1 310 49 [1186, fI (a : Int), fI ((n : Int) + 1), fI (k : Int), fI (o : Int)] [] g' Q
  | l, o, g', hl, hf, hi => by
    refine fx_rg (fun hg => ?_)
    have f1 := hgA hg 8 (c := 155) (j := k) (by decide +kernel) hk
    unfold fR at f1
    refine fx_li 4 51 (by decide +kernel) rfl ?_
    refine fx_ci (8) 53 (by decide +kernel) ?_
    refine fx_ige 110 56 (by decide +kernel) (by unfold fR; omega) (by unfold fR; omega) (fun h53 => ?_) (fun h53 => ?_)
    · refine fx_inc 3 113 (1) (by decide +kernel) rfl (Or.inr (fI_n4 _)) rfl ?_
      dsimp only [List.set]
      refine fx_go 40 (by decide +kernel) ?_
      have e : o = 8 := by omega
      subst e
      exact kq g' _ hf hi
    · refine fx_la 0 57 (v := 1186) (by decide +kernel) rfl (by decide +kernel) ?_
      refine fx_gp 1186 148 20 1242 60 (by decide +kernel) ?_
      refine fx_li 3 61 (by decide +kernel) rfl ?_
      refine fx_al 1242 155 8 62 (by decide +kernel) rfl (by omega) (by omega) rfl ?_
      rw [show ((k : Int)).toNat = k from rfl]
      refine fx_li 2 63 (by decide +kernel) rfl ?_
      refine fx_ci (1) 64 (by decide +kernel) ?_
      refine fx_sub 65 (by decide +kernel) rfl ?_
      refine fx_ine 104 68 (by decide +kernel) (by unfold fR; omega) (by unfold fR; omega) (fun h65 => ?_) (fun h65 => ?_)
      · refine fx_inc 4 107 (1) (by decide +kernel) rfl (Or.inr (fI_n4 _)) rfl ?_
        dsimp only [List.set]
        refine fx_go 49 (by decide +kernel) ?_
        match l, hl with
        | 0, hl => exfalso; omega
        | l + 1, hl =>
          refine sp_fars_3 hn hk kq l (o + 1) _ (by omega) hf (pG_n hk hi (by omega) (fun t => ?_))
          have t2 : fbt (g 149 (116 + k)) (o : Int) = 1 := t.2.1
          omega
      · refine fx_la 0 69 (v := 1186) (by decide +kernel) rfl (by decide +kernel) ?_
        refine fx_gp 1186 148 1 1194 72 (by decide +kernel) ?_
        refine fx_ci (116) 74 (by decide +kernel) ?_
        refine fx_li 3 75 (by decide +kernel) rfl ?_
        refine fx_add 76 (by decide +kernel) rfl ?_
        refine fx_al 1194 149 764 77 (by decide +kernel) rfl (by omega) (by omega) rfl ?_
        rw [show (116 + (k : Int)).toNat = 116 + k by omega, hf 149 _ (by decide)]
        refine fx_li 4 79 (by decide +kernel) rfl ?_
        refine fx_c2 307 22 82 0 [] (f_q22 (by decide +kernel)) (by decide) (fI_n4 _) (fI_n4 _) rfl (by first | decide | omega) ?_
        refine sp_misOf (fK1 ?_)
        have h01 := fbt_01 (g 149 (116 + k)) (o : Int)
        have f2 := hgA hg 8 (c := 155) (j := o) (by decide +kernel) (by omega)
        unfold fR at f2
        refine fx_zeq 104 85 (by decide +kernel) (by unfold fR; omega) (fun h82 => ?_) (fun h82 => ?_)
        · refine fx_inc 4 107 (1) (by decide +kernel) rfl (Or.inr (fI_n4 _)) rfl ?_
          dsimp only [List.set]
          refine fx_go 49 (by decide +kernel) ?_
          match l, hl with
          | 0, hl => exfalso; omega
          | l + 1, hl =>
            refine sp_fars_3 hn hk kq l (o + 1) _ (by omega) hf (pG_n hk hi (by omega) (fun t => ?_))
            have t2 : fbt (g 149 (116 + k)) (o : Int) = 1 := t.2.1
            omega
        · refine fx_la 0 86 (v := 1186) (by decide +kernel) rfl (by decide +kernel) ?_
          refine fx_gp 1186 148 20 1242 89 (by decide +kernel) ?_
          refine fx_li 4 91 (by decide +kernel) rfl ?_
          refine fx_al 1242 155 8 92 (by decide +kernel) rfl (by omega) (by omega) rfl ?_
          try simp only [fu_app, fcy_app, Nat.reduceEqDiff, and_true, and_false, false_and, true_and, if_true, if_false, ite_true, ite_false, reduceIte, Int.reduceToNat, fx_simp0]
          rw [show ((o : Int)).toNat = o from rfl]
          refine fx_cn (-1) 93 (by decide +kernel) (fun v92 c92 => ?_)
          refine fx_ine 104 96 (by decide +kernel) (by unfold fR; omega) (by unfold fR; omega) (fun h93 => ?_) (fun h93 => ?_)
          · refine fx_inc 4 107 (1) (by decide +kernel) rfl (Or.inr (fI_n4 _)) rfl ?_
            dsimp only [List.set]
            refine fx_go 49 (by decide +kernel) ?_
            match l, hl with
            | 0, hl => exfalso; omega
            | l + 1, hl =>
              refine sp_fars_3 hn hk kq l (o + 1) _ (by omega) hf (pG_n hk hi (by omega) (fun t => ?_))
              have t2 : fbt (g 149 (116 + k)) (o : Int) = 1 := t.2.1
              omega
          · refine fx_la 0 97 (v := 1186) (by decide +kernel) rfl (by decide +kernel) ?_
            refine fx_gp 1186 148 20 1242 100 (by decide +kernel) ?_
            refine fx_li 4 102 (by decide +kernel) rfl ?_
            refine fx_li 2 103 (by decide +kernel) rfl ?_
            refine fx_as 1242 155 8 104 (by decide +kernel) rfl (by omega) (by omega) rfl (by unfold fR; omega) ?_
            refine fx_inc 4 107 (1) (by decide +kernel) rfl (Or.inr (fI_n4 _)) rfl ?_
            dsimp only [List.set]
            refine fx_go 49 (by decide +kernel) ?_
            match l, hl with
            | 0, hl => exfalso; omega
            | l + 1, hl =>
              refine sp_fars_3 hn hk kq l (o + 1) _ (by omega) hf.fu (pG_y hk hi (by omega) (by omega) (show fbt (g 149 (116 + k)) (o : Int) = 1 by omega) (by omega) ?_ (fun p hp => ?_))
              · rw [show ((o : Int)).toNat = o from rfl, fu_eq]
              · rw [show ((o : Int)).toNat = o from rfl, fu_nj hp]
theorem sp_fars_2 {a n : Nat} (hn : n < 7) (kq : ∀ (g' : Nat → Nat → Int) (x3 x4 : Nat), fFA g g' → pF (fun q => g 149 (116 + q)) a (n + 1) (g' 155) → fx W r 1 310 32 [1186, fI (a : Int), fI ((n : Int) + 1 + 1), x3, x4] [] g' Q) : ∀ (l k : Nat) (x4 : Nat) (g' : Nat → Nat → Int), k + l = 8 → fFA g g' → pG (fun q => g 149 (116 + q)) a n k 0 (g' 155) → fx W r 1 310 40 [1186, fI (a : Int), fI ((n : Int) + 1), fI (k : Int), x4] [] g' Q
  | l, k, x4, g', hl, hf, hi => by
    refine fx_li 3 41 (by decide +kernel) rfl ?_
    refine fx_ci (8) 43 (by decide +kernel) ?_
    refine fx_ige 116 46 (by decide +kernel) (by unfold fR; omega) (by unfold fR; omega) (fun h43 => ?_) (fun h43 => ?_)
    · refine fx_inc 2 119 (1) (by decide +kernel) rfl (Or.inr (fI_n4 _)) rfl ?_
      dsimp only [List.set]
      refine fx_go 32 (by decide +kernel) ?_
      have e : k = 8 := by omega
      subst e
      exact kq g' _ _ hf (pG_8 hi)
    · refine fx_ci (0) 47 (by decide +kernel) ?_
      refine fx_si 4 49 (by decide +kernel) (Or.inr (fI_n4 _)) rfl ?_
      dsimp only [List.set]
      match l, hl with
      | 0, hl => exfalso; omega
      | l + 1, hl => exact sp_fars_3 hn (by omega) (fun g2 y4 hf2 hi2 => sp_fars_2 hn kq l (k + 1) y4 g2 (by omega) hf2 (pG_k (by omega) hi2)) 8 0 g' rfl hf hi
theorem sp_fars_1 {a : Nat} (kq : ∀ g', fFA g g' → pF (fun q => g 149 (116 + q)) a 7 (g' 155) → Q 0 0 g') : ∀ (l n : Nat) (x3 x4 : Nat) (g' : Nat → Nat → Int), n + l = 7 → fFA g g' → pF (fun q => g 149 (116 + q)) a n (g' 155) → fx W r 1 310 32 [1186, fI (a : Int), fI ((n : Int) + 1), x3, x4] [] g' Q
  | l, n, x3, x4, g', hl, hf, hi => by
    refine fx_li 2 33 (by decide +kernel) rfl ?_
    refine fx_ci (8) 35 (by decide +kernel) ?_
    refine fx_ige 122 38 (by decide +kernel) (by unfold fR; omega) (by unfold fR; omega) (fun h35 => ?_) (fun h35 => ?_)
    · refine fx_vret (by decide +kernel) ?_
      have e : n = 7 := by omega
      subst e
      exact kq g' hf hi
    · refine fx_ci (0) 39 (by decide +kernel) ?_
      refine fx_si 3 40 (by decide +kernel) (Or.inr (fI_n4 _)) rfl ?_
      dsimp only [List.set]
      match l, hl with
      | 0, hl => exfalso; omega
      | l + 1, hl => exact sp_fars_2 (by omega) (fun g2 y3 y4 hf2 hi2 => sp_fars_1 kq l (n + 1) y3 y4 g2 (by omega) hf2 hi2) 8 0 x4 g' rfl hf (pG_0 hi)
theorem sp_fars {a : Nat} (ha : a < 8) (kq : ∀ g', fFA g g' → pF (fun q => g 149 (116 + q)) a 7 (g' 155) → Q 0 0 g') : fx W r 1 310 0 [1186, fI (a : Int), 7, 7, 7] [] g Q := by
  refine fx_ci (0) 1 (by decide +kernel) ?_
  refine fx_si 2 2 (by decide +kernel) (Or.inr (fI_n4 _)) rfl ?_
  dsimp only [List.set]
  exact sp_fars_0 (fun g' x3 x4 hf hi => sp_fars_1 kq 7 0 x3 x4 g' rfl hf hi) ha 8 0 7 7 g rfl (fun _ _ _ => rfl) (fun p hp => absurd hp (Nat.not_lt_zero _))
theorem sp_cfar {a b : Int} (hr : 1 ≤ r) (ha : fR a) (hb : fR b) (k1 : ¬ ((0 ≤ a ∧ a ≤ 7) ∧ 0 ≤ b ∧ b ≤ 7) → Q 4 0 g) (k3 : (0 ≤ a ∧ a ≤ 7) ∧ 0 ≤ b ∧ b ≤ 7 → Q 1 (fI (pD (g 7) a.toNat b.toNat 8 0)) g) : fx W r 3 180 0 [2, fI a, fI b] [] g Q := by
  refine fx_la 0 1 (v := 2) (by decide +kernel) rfl (by decide +kernel) ?_
  refine fx_li 1 2 (by decide +kernel) rfl ?_
  refine fx_c2 140 21 5 0 [] (by decide +kernel) (by decide) (by decide) (fI_n4 _) rfl (by first | decide | omega) ?_
  refine sp_needPlace hr ha (fun t1 => fK0 ?_) (fun t1 => fK2 (k := 2) ?_)
  · refine fx_la 0 6 (v := 2) (by decide +kernel) rfl (by decide +kernel) ?_
    refine fx_li 2 7 (by decide +kernel) rfl ?_
    refine fx_c2 140 21 10 0 [] (by decide +kernel) (by decide) (by decide) (fI_n4 _) rfl (by first | decide | omega) ?_
    refine sp_needPlace hr hb (fun t2 => fK0 ?_) (fun t2 => fK2 (k := 2) ?_)
    · refine fx_la 0 11 (v := 2) (by decide +kernel) rfl (by decide +kernel) ?_
      refine fx_gp 2 0 1 26 14 (by decide +kernel) ?_
      refine fx_li 1 15 (by decide +kernel) rfl ?_
      refine fx_li 2 16 (by decide +kernel) rfl ?_
      refine fx_c3 134 21 19 2 [7, 7] (by decide +kernel) (by decide) (by decide) (fI_n4 _) (fI_n4 _) rfl (by first | decide | omega) ?_
      have ea : a = ((a.toNat : Nat) : Int) := by omega
      have eb : b = ((b.toNat : Nat) : Int) := by omega
      rw [ea, eb]
      refine sp_dist (by omega) (by omega) (fK1 ?_)
      refine fx_ret (by decide +kernel) ?_
      exact k3 ⟨t1, t2⟩
    · exact k1 (fun t => t2 t.2)
  · exact k1 (fun t => t1 t.1)
theorem sp_mfar {a b : Int} (ha : fR a) (hb : fR b) (k1 : ¬ ((0 ≤ a ∧ a ≤ 7) ∧ 0 ≤ b ∧ b ≤ 7) → Q 1 (fI 0) (fu g 148 0 1)) (k3 : (0 ≤ a ∧ a ≤ 7) ∧ 0 ≤ b ∧ b ≤ 7 → ∀ g', fFA (fu g 148 0 0) g' → Q 1 (fI (pD (fun q => g 149 (116 + q)) a.toNat b.toNat 8 0)) g') : fx W r 2 339 0 [1186, fI a, fI b] [] g Q := by
  have ha2 := ha
  have hb2 := hb
  unfold fR at ha2 hb2
  refine fx_la 0 1 (v := 1186) (by decide +kernel) rfl (by decide +kernel) ?_
  refine fx_li 1 2 (by decide +kernel) rfl ?_
  refine fx_c1 313 22 5 1 [] (f_q22 (by decide +kernel)) (fI_n4 _) rfl (by first | decide | omega) ?_
  refine sp_misPlace ha (fun t1 => fK1 ?_) (fun t1 => fK1 ?_)
  · refine fx_zeq 15 8 (by decide +kernel) (by unfold fR; omega) (fun hc => absurd hc (by decide)) (fun _ => ?_)
    refine fx_li 2 9 (by decide +kernel) rfl ?_
    refine fx_c1 313 22 12 1 [] (f_q22 (by decide +kernel)) (fI_n4 _) rfl (by first | decide | omega) ?_
    refine sp_misPlace hb (fun t2 => fK1 ?_) (fun t2 => fK1 ?_)
    · refine fx_zne 19 15 (by decide +kernel) (by unfold fR; omega) (fun _ => ?_) (fun hc => absurd hc (by decide))
      refine fx_ci (0) 20 (by decide +kernel) ?_
      refine fx_pi 1186 148 0 23 (by decide +kernel) (by unfold fR; omega) ?_
      refine fx_la 0 24 (v := 1186) (by decide +kernel) rfl (by decide +kernel) ?_
      refine fx_gi 1186 148 0 27 (by decide +kernel) ?_
      try simp only [fu_app, fcy_app, Nat.reduceEqDiff, and_true, and_false, false_and, true_and, if_true, if_false, ite_true, ite_false, reduceIte, Int.reduceToNat, fx_simp0]
      refine fx_zle 32 30 (by decide +kernel) (by unfold fR; omega) (fun h27 => ?_) (fun h27 => ?_)
      · refine fx_la 0 33 (v := 1186) (by decide +kernel) rfl (by decide +kernel) ?_
        refine fx_li 1 34 (by decide +kernel) rfl ?_
        refine fx_c2 310 21 37 1 [7, 7, 7] (by decide +kernel) (by decide) (by decide) (fI_n4 _) rfl (by first | decide | omega) ?_
        have ea : a = ((a.toNat : Nat) : Int) := by omega
        have eb : b = ((b.toNat : Nat) : Int) := by omega
        rw [ea, eb]
        refine sp_fars (by omega) (fun g' hf hp => fK0 ?_)
        have hD := pF_D hp (show b.toNat < 8 by omega) 8 0 rfl (fun i hi => absurd hi (Nat.not_lt_zero _))
        refine fx_la 0 38 (v := 1186) (by decide +kernel) rfl (by decide +kernel) ?_
        refine fx_gp 1186 148 20 1242 41 (by decide +kernel) ?_
        refine fx_li 2 42 (by decide +kernel) rfl ?_
        refine fx_al 1242 155 8 43 (by decide +kernel) rfl (by omega) (by omega) rfl ?_
        try simp only [fu_app, fcy_app, Nat.reduceEqDiff, and_true, and_false, false_and, true_and, if_true, if_false, ite_true, ite_false, reduceIte, Int.reduceToNat, fx_simp0]
        refine fx_ret (by decide +kernel) ?_
        have kk := k3 ⟨t1, t2⟩ g' hf
        rw [show (((b.toNat : Nat) : Int)).toNat = b.toNat from rfl, ← hD]
        exact kk
      · refine fx_ci (0) 31 (by decide +kernel) ?_
        refine fx_ret (by decide +kernel) ?_
        exfalso; omega
    · refine fx_zne 19 15 (by decide +kernel) (by unfold fR; omega) (fun hc => absurd hc (by decide)) (fun _ => ?_)
      refine fx_ci (1) 16 (by decide +kernel) ?_
      refine fx_go 20 (by decide +kernel) ?_
      refine fx_pi 1186 148 0 23 (by decide +kernel) (by unfold fR; omega) ?_
      refine fx_la 0 24 (v := 1186) (by decide +kernel) rfl (by decide +kernel) ?_
      refine fx_gi 1186 148 0 27 (by decide +kernel) ?_
      try simp only [fu_app, fcy_app, Nat.reduceEqDiff, and_true, and_false, false_and, true_and, if_true, if_false, ite_true, ite_false, reduceIte, Int.reduceToNat, fx_simp0]
      refine fx_zle 32 30 (by decide +kernel) (by unfold fR; omega) (fun h27 => ?_) (fun h27 => ?_)
      · exfalso; omega
      · refine fx_ci (0) 31 (by decide +kernel) ?_
        refine fx_ret (by decide +kernel) ?_
        exact k1 (fun t => t2 t.2)
  · refine fx_zeq 15 8 (by decide +kernel) (by unfold fR; omega) (fun _ => ?_) (fun hc => absurd hc (by decide))
    refine fx_ci (1) 16 (by decide +kernel) ?_
    refine fx_go 20 (by decide +kernel) ?_
    refine fx_pi 1186 148 0 23 (by decide +kernel) (by unfold fR; omega) ?_
    refine fx_la 0 24 (v := 1186) (by decide +kernel) rfl (by decide +kernel) ?_
    refine fx_gi 1186 148 0 27 (by decide +kernel) ?_
    try simp only [fu_app, fcy_app, Nat.reduceEqDiff, and_true, and_false, false_and, true_and, if_true, if_false, ite_true, ite_false, reduceIte, Int.reduceToNat, fx_simp0]
    refine fx_zle 32 30 (by decide +kernel) (by unfold fR; omega) (fun h27 => ?_) (fun h27 => ?_)
    · exfalso; omega
    · refine fx_ci (0) 31 (by decide +kernel) ?_
      refine fx_ret (by decide +kernel) ?_
      exact k1 (fun t => t1 t.1)
theorem sp_wfar {a b : Int} (hl : 1 ≤ W.lim) (ha : fR a) (hb : fR b) (k1 : ¬ ((0 ≤ a ∧ a ≤ 7) ∧ 0 ≤ b ∧ b ≤ 7) → Q 1 (fI 1) g) (k3 : (0 ≤ a ∧ a ≤ 7) ∧ 0 ≤ b ∧ b ≤ 7 → Q 1 (fI 0) (fu g 159 0 ((fJ (pD (g 7) a.toNat b.toNat 8 0) - 4 : Nat) : Int))) : fx W 1 4 179 0 [2, fI a, fI b, 1274, 7] [] g Q := by
  refine fx_la 3 1 (v := 1274) (by decide +kernel) rfl (by decide +kernel) ?_
  refine fx_ci (0) 2 (by decide +kernel) ?_
  refine fx_la 0 3 (v := 2) (by decide +kernel) rfl (by decide +kernel) ?_
  refine fx_li 1 4 (by decide +kernel) rfl ?_
  refine fx_li 2 5 (by decide +kernel) rfl ?_
  obtain ⟨e1, e2⟩ := f_qm_ok (W := W) (L := [2, fI a, fI b, 1274, 7]) (g := g) (S := [fI b, fI a, 2, fI 0, 1274]) (rest := [fI 0, 1274]) (mi := 179) (pc := 5) (mj := 180) (n := 3) (op := 21) (a := 2) (av' := [fI a, fI b]) (by decide +kernel) (by decide +kernel) (fun K => rfl) (fun t => absurd t (by decide))
  refine fx_callH (l := 0) (r := 0) (by omega) e1 e2 (by decide +kernel) (dj := 3) (by decide) (by decide +kernel) (pc' := 8) rfl (Lj := [2, fI a, fI b]) (f_xp (f_n4_3 (by decide)) (show 3 ≤ _ by decide +kernel)) ?_
  refine sp_cfar (Nat.le_refl 1) ha hb (fun t => ?_) (fun t => ?_)
  · refine fKH2 2 15 4 (by decide +kernel) (Or.inr (f_n4p (v := 1274) rfl (by decide))) rfl ?_
    dsimp only [List.set]
    exact fx_ci 1 16 (by decide +kernel) (fx_ret (by decide +kernel) (k1 t))
  · refine fKH1 ?_
    refine fx_i2l 9 (by decide +kernel) rfl ?_
    refine fx_las 1274 159 1 10 (by decide +kernel) rfl (by omega) (by omega) (by decide +kernel) (fJ_ok _).1 (fJ_ok _).2 ?_
    exact fx_go 17 (by decide +kernel) (fx_ci 0 18 (by decide +kernel) (fx_ret (by decide +kernel) (k3 t)))
end G19
