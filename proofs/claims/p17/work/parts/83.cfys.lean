/-! fx: what is put aside comes back -/
theorem gHs_fu {g : Nat → Nat → Int} {c j e : Nat} {z : Int} (hg : gHs g) (hc : c < 160) (hj : j < (ax_cl c).1 / 256) (hi : fInt c j = true) (hp : fPtr c j = 0) (hs : ax_sg (ax_cl c).2.2 (j % (ax_cl c).2.1) (j % (ax_cl c).2.1) = some (e, 0, 0, 4294967295, 0, 0)) (r0 : fR (g c j)) (hz : fR z) : gHs (fu g c j z) := fun h v => by
  have v1 := v.put hc hj hi hp r0
  rw [fu_fu, fu_self] at v1
  have q := hg _ v1
  refine ⟨v.1, fun c' j' hc' hj' => ?_⟩
  by_cases t : c' = c ∧ j' = j
  · obtain ⟨rfl, rfl⟩ := t
    refine ⟨_, hs, Or.inl ⟨rfl, Int32.ofInt z, ?_, Nat.zero_le _, ?_⟩⟩
    · rw [(v.2 c' j' hc' hj').1]
      unfold fEnc
      rw [if_pos hi, fu_eq, fI_eq]
    · have := sx_b_lt (Int32.ofInt z)
      show sx_b (Int32.ofInt z) ≤ 4294967295
      omega
  · have e : sx_get (sx_rd h c').2 j' = sx_get (sx_rd (sx_wr h c ((sx_rd h c).1, sx_set (sx_rd h c).2 j (fI (g c j)))) c').2 j' := by rw [(v.2 c' j' hc' hj').1, (v1.2 c' j' hc' hj').1, fu_ne t]
    rw [e]
    exact q.pk c' j' hc' hj'
theorem ax_Aq_r {z : Int} {lo hi : Nat} (hz : fR z) (h1 : (lo : Int) ≤ z + 2147483648) (h2 : z + 2147483648 ≤ (hi : Int)) : ax_Aq (1, lo, hi) (fI z) := Or.inr (Or.inr ⟨by show (1 : Nat) ≠ 0; decide, by show (1 : Nat) ≠ 2; decide, Int32.ofInt z, fI_eq z, by have := fI_b hz; show lo ≤ _; omega, by have := fI_b hz; show _ ≤ hi; omega⟩)
theorem ax_Aq_m : ax_Aq (0, 1186, 0) 1186 := Or.inl ⟨rfl, [], ax_V.ref ⟨by decide, by decide, by decide, by decide⟩⟩
theorem f_n4_1 {p : Nat} (hp : p % 8 ≠ 4) : ∀ v ∈ [p], v % 8 ≠ 4 := fun v hv => by
  simp only [List.mem_cons, List.not_mem_nil, or_false] at hv
  subst hv
  exact hp
theorem f_n4_2 {p : Nat} {a : Int} (hp : p % 8 ≠ 4) : ∀ v ∈ [p, fI a], v % 8 ≠ 4 := fun v hv => by
  simp only [List.mem_cons, List.not_mem_nil, or_false] at hv
  rcases hv with rfl | rfl
  · exact hp
  · exact fI_n4 _
theorem f_n4_3 {p : Nat} {a b : Int} (hp : p % 8 ≠ 4) : ∀ v ∈ [p, fI a, fI b], v % 8 ≠ 4 := fun v hv => by
  simp only [List.mem_cons, List.not_mem_nil, or_false] at hv
  rcases hv with rfl | rfl | rfl
  · exact hp
  · exact fI_n4 _
  · exact fI_n4 _
/-- a contract that leaves what is put aside -/
def KC (N : Nat) (sy : sx_Y) (mi : Nat) (as : List (Nat × Nat × Nat)) (d : Nat) (c : ax_C) : Prop := ax_Valid N sy c ∧ c.1 = mi ∧ c.2.2.1 = as ∧ c.2.2.2.1 = [] ∧ c.2.1 ≤ d ∧ ax_tb c.2.2.2.2.1 (ax_bit true 151 0) = false ∧ ∀ t ∈ c.2.2.2.2.2.2, t.1 = 1 ∧ t.2.1 = 1
def KD (N : Nat) (sy : sx_Y) (mi : Nat) (d : Nat) (c : ax_C) : Prop := ax_Valid N sy c ∧ c.1 = mi ∧ c.2.2.1 = [(0, 1186, 0)] ∧ c.2.2.2.1 = [] ∧ c.2.1 ≤ d
def KA (g0 g : Nat → Nat → Int) : Prop := gHs g ∧ ∀ j, j < 364 → g 151 j = g0 149 j
theorem KA_fu {g g' : Nat → Nat → Int} {c j : Nat} {z : Int} (hc : 149 ≠ c) (h : KA (fu g c j z) g') : KA g g' := ⟨h.1, fun k hk => by rw [h.2 k hk, fu_nc hc]⟩
section FYS
variable {W : ax_W} {r : Nat} {g : Nat → Nat → Int} {Q : Nat → Nat → (Nat → Nat → Int) → Prop}
theorem fx_ka {c : ax_C} {d mi : Nat} {as : List (Nat × Nat × Nat)} {cav Lj : List Nat} {g0 : Nat → Nat → Int} (hc : KC W.N W.sy mi as d c) (hg : KA g0 g) (ha : ax_As as cav) (hx : sx_xp cav (sx_im (sx_mt mi).2) = some Lj) (hr : 1 ≤ r) (kq : ∀ z g', fR z → KA g0 g' → Q 1 (fI z) g') : fx W r d mi 0 Lj [] g Q := by
  obtain ⟨c1, c2, c3, c4, c5, c6, c7⟩ := hc
  subst c2 c3
  refine fx_val c1 hg.1 ha c4 hx hr c5 (fun t ht => by have := (c7 t ht).1; omega) (fun t ht k v g' hk h1 h2 h3 => ?_)
  obtain ⟨t1, t2⟩ := c7 t ht
  obtain ⟨z, e, rz, -⟩ := h3 t2
  subst e
  rw [hk, t1]
  refine kq z g' rz ⟨h1, fun j hj => ?_⟩
  have l : (ax_cl 151).1 / 256 = 364 := by decide +kernel
  rw [h2 151 j (by decide) (by omega) (f_okp (c := 151) (j := j) (by decide) (by decide +kernel)).1 (by
    have a : ax_ar 151 = true := by decide +kernel
    rw [a]
    exact c6)]
  exact hg.2 j hj
theorem sp_puts_1 (kq : ∀ g', g' = fcpn g 149 151 364 → Q 0 0 g') : ∀ (n k : Nat), k + n = 364 → fx W r 0 268 2 [1186, fI (k : Int)] [] (fcpn g 149 151 k) Q
  | n, k, hn => by
    refine fx_rg (fun hg => ?_)
    refine fx_li 1 3 (by decide +kernel) rfl ?_
    refine fx_ci (364) 6 (by decide +kernel) ?_
    refine fx_ige 27 9 (by decide +kernel) (by unfold fR; omega) (by unfold fR; omega) (fun h6 => ?_) (fun h6 => ?_)
    · refine fx_vret (by decide +kernel) ?_
      have e : k = 364 := by omega
      subst e
      exact kq _ rfl
    · refine fx_la 0 10 (v := 1186) (by decide +kernel) rfl (by decide +kernel) ?_
      refine fx_gp 1186 148 4 1210 13 (by decide +kernel) ?_
      refine fx_li 1 14 (by decide +kernel) rfl ?_
      refine fx_la 0 15 (v := 1186) (by decide +kernel) rfl (by decide +kernel) ?_
      refine fx_gp 1186 148 1 1194 18 (by decide +kernel) ?_
      refine fx_li 1 19 (by decide +kernel) rfl ?_
      refine fx_al 1194 149 764 20 (by decide +kernel) rfl (by omega) (by omega) rfl ?_
      have hv := hgA hg 764 (c := 149) (j := k) (by decide +kernel) (by omega)
      rw [show ((k : Int)).toNat = k from rfl]
      rw [fcpn_nc (by decide)] at hv ⊢
      unfold fR at hv
      refine fx_as 1210 151 364 21 (by decide +kernel) rfl (by omega) (by omega) rfl (by unfold fR; omega) ?_
      rw [show ((k : Int)).toNat = k from rfl, fcpn_s]
      refine fx_inc 1 24 (1) (by decide +kernel) rfl (Or.inr (f_n4p (v := 1186) rfl (by decide))) rfl ?_
      dsimp only [List.set]
      refine fx_go 2 (by decide +kernel) ?_
      match n, hn with
      | 0, hn => exfalso; omega
      | n + 1, hn => exact sp_puts_1 kq n (k + 1) (by omega)
theorem sp_puts (kq : Q 0 0 (fcpn g 149 151 364)) : fx W r 0 268 0 [1186, 7] [] g Q := by
  refine fx_ci (0) 1 (by decide +kernel) ?_
  refine fx_si 1 2 (by decide +kernel) (Or.inr (f_n4p (v := 1186) rfl (by decide))) rfl ?_
  dsimp only [List.set]
  have st := sp_puts_1 (W := W) (r := r) (Q := Q) (g := g) (fun g' e => by subst e; exact kq) 364 0 rfl
  rw [fcpn_0] at st
  exact st
theorem sp_comes_1 (kq : ∀ g', g' = fcpn g 151 149 364 → Q 0 0 g') : ∀ (n k : Nat), k + n = 364 → fx W r 0 294 2 [1186, fI (k : Int)] [] (fcpn g 151 149 k) Q
  | n, k, hn => by
    refine fx_rg (fun hg => ?_)
    refine fx_li 1 3 (by decide +kernel) rfl ?_
    refine fx_ci (364) 6 (by decide +kernel) ?_
    refine fx_ige 27 9 (by decide +kernel) (by unfold fR; omega) (by unfold fR; omega) (fun h6 => ?_) (fun h6 => ?_)
    · refine fx_vret (by decide +kernel) ?_
      have e : k = 364 := by omega
      subst e
      exact kq _ rfl
    · refine fx_la 0 10 (v := 1186) (by decide +kernel) rfl (by decide +kernel) ?_
      refine fx_gp 1186 148 1 1194 13 (by decide +kernel) ?_
      refine fx_li 1 14 (by decide +kernel) rfl ?_
      refine fx_la 0 15 (v := 1186) (by decide +kernel) rfl (by decide +kernel) ?_
      refine fx_gp 1186 148 4 1210 18 (by decide +kernel) ?_
      refine fx_li 1 19 (by decide +kernel) rfl ?_
      refine fx_al 1210 151 364 20 (by decide +kernel) rfl (by omega) (by omega) rfl ?_
      have hv := hgA hg 364 (c := 151) (j := k) (by decide +kernel) (by omega)
      rw [show ((k : Int)).toNat = k from rfl]
      rw [fcpn_nc (by decide)] at hv ⊢
      unfold fR at hv
      refine fx_as 1194 149 764 21 (by decide +kernel) rfl (by omega) (by omega) rfl (by unfold fR; omega) ?_
      rw [show ((k : Int)).toNat = k from rfl, fcpn_s]
      refine fx_inc 1 24 (1) (by decide +kernel) rfl (Or.inr (f_n4p (v := 1186) rfl (by decide))) rfl ?_
      dsimp only [List.set]
      refine fx_go 2 (by decide +kernel) ?_
      match n, hn with
      | 0, hn => exfalso; omega
      | n + 1, hn => exact sp_comes_1 kq n (k + 1) (by omega)
theorem sp_comes (kq : Q 0 0 (fcpn g 151 149 364)) : fx W r 0 294 0 [1186, 7] [] g Q := by
  refine fx_ci (0) 1 (by decide +kernel) ?_
  refine fx_si 1 2 (by decide +kernel) (Or.inr (f_n4p (v := 1186) rfl (by decide))) rfl ?_
  dsimp only [List.set]
  have st := sp_comes_1 (W := W) (r := r) (Q := Q) (g := g) (fun g' e => by subst e; exact kq) 364 0 rfl
  rw [fcpn_0] at st
  exact st
theorem ka_puts2 {c : ax_C} {d : Nat} (hc : KD W.N W.sy 268 d c) (hg : gHs g) (hr : 1 ≤ r) (kq : ∀ g', KA g g' → (∀ j, j < 364 → g' 149 j = g 149 j) → Q 0 0 g') : fx W r d 268 0 [1186, 7] [] g Q := by
  obtain ⟨c1, c2, c3, c4, c5⟩ := hc
  have wk : fx W r d 268 0 [1186, 7] [] g (fun k v g' => (k = 0 ∧ v = 0 ∧ g' = fcpn g 149 151 364) ∧ gHs g') := by
    rw [← c2]
    refine fx_hs (cav := [1186]) c1 hg (by rw [c3]; exact ⟨ax_Aq_m, True.intro⟩) c4 (by rw [c2]; exact f_xp (f_n4_1 (by decide)) (show 1 ≤ _ by decide +kernel)) hr c5 ?_
    rw [c2]
    exact fx.up (sp_puts ⟨rfl, rfl, rfl⟩) (Nat.le_refl _) (Nat.zero_le _)
  refine wk.mono (fun k v g' h => ?_)
  obtain ⟨⟨rfl, rfl, e⟩, h2⟩ := h
  refine kq g' ⟨h2, fun j hj => ?_⟩ (fun j hj => ?_)
  · rw [e]
    exact if_pos ⟨rfl, hj⟩
  · rw [e, fcpn_nc (by decide)]
theorem ka_puts {c : ax_C} {d : Nat} (hc : KD W.N W.sy 268 d c) (hg : gHs g) (hr : 1 ≤ r) (kq : ∀ g', KA g g' → Q 0 0 g') : fx W r d 268 0 [1186, 7] [] g Q := ka_puts2 hc hg hr (fun g' h _ => kq g' h)
theorem ka_comes {c : ax_C} {d : Nat} {g0 : Nat → Nat → Int} (hc : KD W.N W.sy 294 d c) (hg : KA g0 g) (hr : 1 ≤ r) (kq : ∀ g', KA g0 g' → (∀ j, j < 364 → g' 149 j = g0 149 j) → Q 0 0 g') : fx W r d 294 0 [1186, 7] [] g Q := by
  obtain ⟨c1, c2, c3, c4, c5⟩ := hc
  have wk : fx W r d 294 0 [1186, 7] [] g (fun k v g' => (k = 0 ∧ v = 0 ∧ g' = fcpn g 151 149 364) ∧ gHs g') := by
    rw [← c2]
    refine fx_hs (cav := [1186]) c1 hg.1 (by rw [c3]; exact ⟨ax_Aq_m, True.intro⟩) c4 (by rw [c2]; exact f_xp (f_n4_1 (by decide)) (show 1 ≤ _ by decide +kernel)) hr c5 ?_
    rw [c2]
    exact fx.up (sp_comes ⟨rfl, rfl, rfl⟩) (Nat.le_refl _) (Nat.zero_le _)
  refine wk.mono (fun k v g' h => ?_)
  obtain ⟨⟨rfl, rfl, e⟩, h2⟩ := h
  refine kq g' ⟨h2, fun j hj => ?_⟩ (fun j hj => ?_)
  · rw [e, fcpn_nc (by decide)]
    exact hg.2 j hj
  · rw [e]
    refine Eq.trans (if_pos ⟨rfl, hj⟩) (hg.2 j hj)
theorem sp_isPerson {v : Int} (hv : fR v) (h0 : 0 ≤ g 149 3) (h1 : g 149 3 ≤ 8) (k1 : 0 ≤ v ∧ v ≤ 7 → Q 1 (fI 1) g) (k2 : Q 1 (fI 0) g) : fx W r 1 298 0 [1186, fI v] [] g Q := by
  refine fx_li 1 1 (by decide +kernel) rfl ?_
  refine fx_ci (0) 2 (by decide +kernel) ?_
  refine fx_la 0 3 (v := 1186) (by decide +kernel) rfl (by decide +kernel) ?_
  refine fx_gp 1186 148 1 1194 6 (by decide +kernel) ?_
  refine fx_ci (3) 7 (by decide +kernel) ?_
  refine fx_al 1194 149 764 8 (by decide +kernel) rfl (by omega) (by omega) rfl ?_
  try simp only [fu_app, fcy_app, Nat.reduceEqDiff, and_true, and_false, false_and, true_and, if_true, if_false, ite_true, ite_false, reduceIte, Int.reduceToNat, fx_simp0]
  refine fx_ci (1) 9 (by decide +kernel) ?_
  refine fx_sub 10 (by decide +kernel) rfl ?_
  refine fx_c3 266 22 13 0 [] (f_q22 (by decide +kernel)) (by decide) (fI_n4 _) (fI_n4 _) (fI_n4 _) rfl (by first | decide | omega) ?_
  refine sp_isIn hv (by unfold fR; omega) (by unfold fR; omega) (fun t => fK1 ?_) (fun t => fK1 ?_)
  · refine fx_retb (by decide +kernel) (by first | exact Or.inl rfl | exact Or.inr rfl | omega) ?_
    exact k1 (by omega)
  · refine fx_retb (by decide +kernel) (by first | exact Or.inl rfl | exact Or.inr rfl | omega) ?_
    exact k2
theorem sp_isNights {v : Int} (hv : fR v) (k1 : 0 ≤ v ∧ v ≤ 60 → Q 1 (fI 1) g) (k2 : Q 1 (fI 0) g) : fx W r 1 398 0 [fI v] [] g Q := by
  refine fx_li 0 1 (by decide +kernel) rfl ?_
  refine fx_ci (0) 2 (by decide +kernel) ?_
  refine fx_ci (60) 4 (by decide +kernel) ?_
  refine fx_c3 266 22 7 0 [] (f_q22 (by decide +kernel)) (by decide) (fI_n4 _) (fI_n4 _) (fI_n4 _) rfl (by first | decide | omega) ?_
  refine sp_isIn hv (by unfold fR; omega) (by unfold fR; omega) (fun t => fK1 ?_) (fun t => fK1 ?_)
  · refine fx_retb (by decide +kernel) (by first | exact Or.inl rfl | exact Or.inr rfl | omega) ?_
    exact k1 t
  · refine fx_retb (by decide +kernel) (by first | exact Or.inl rfl | exact Or.inr rfl | omega) ?_
    exact k2
theorem sp_greater {v w : Int} (hv : fR v) (hw : fR w) (kq : ∀ z, fR z → Q 1 (fI z) g) : fx W r 0 317 0 [fI v, fI w] [] g Q := by
  have hv2 := hv
  have hw2 := hw
  unfold fR at hv2 hw2
  refine fx_li 0 1 (by decide +kernel) rfl ?_
  refine fx_li 1 2 (by decide +kernel) rfl ?_
  refine fx_ile 9 5 (by decide +kernel) (by unfold fR; omega) (by unfold fR; omega) (fun h2 => ?_) (fun h2 => ?_)
  · refine fx_li 1 10 (by decide +kernel) rfl ?_
    refine fx_ret (by decide +kernel) ?_
    exact kq _ hw
  · refine fx_li 0 6 (by decide +kernel) rfl ?_
    refine fx_go 10 (by decide +kernel) ?_
    refine fx_ret (by decide +kernel) ?_
    exact kq _ hv
theorem sp_lesser {v w : Int} (hv : fR v) (hw : fR w) (kq : ∀ z, fR z → Q 1 (fI z) g) : fx W r 0 322 0 [fI v, fI w] [] g Q := by
  have hv2 := hv
  have hw2 := hw
  unfold fR at hv2 hw2
  refine fx_li 0 1 (by decide +kernel) rfl ?_
  refine fx_li 1 2 (by decide +kernel) rfl ?_
  refine fx_ige 9 5 (by decide +kernel) (by unfold fR; omega) (by unfold fR; omega) (fun h2 => ?_) (fun h2 => ?_)
  · refine fx_li 1 10 (by decide +kernel) rfl ?_
    refine fx_ret (by decide +kernel) ?_
    exact kq _ hw
  · refine fx_li 0 6 (by decide +kernel) rfl ?_
    refine fx_go 10 (by decide +kernel) ?_
    refine fx_ret (by decide +kernel) ?_
    exact kq _ hv
theorem gHs_m3 {h : sx_H} (q : ax_Hs h) (v : HV h g) : 0 ≤ g 149 3 ∧ g 149 3 ≤ 8 := Hs_b q v 149 3 0 8 (by decide +kernel) (4, 0, 2147483648, 2147483656, 0, 0) (by decide +kernel) rfl rfl rfl
theorem fx_m3 {d mi pc : Nat} {L S : List Nat} (hg : gHs g) (k : 0 ≤ g 149 3 ∧ g 149 3 ≤ 8 → fx W r d mi pc L S g Q) : fx W r d mi pc L S g Q := fun D h cs ss hD v => k (gHs_m3 (hg h v) v) D h cs ss hD v
end FYS
