/-! fx: longs, the script, calls with handlers -/
def fJ (z : Int) : Nat := sx_j (Int32.ofInt z).toInt64
theorem fJ_ok (z : Int) : fJ z % 8 = 4 ∧ fJ z < 4722366482869645213696 := by
  have h := (Int32.ofInt z).toInt64.toBitVec.isLt
  show (8 * (Int32.ofInt z).toInt64.toBitVec.toNat + 4) % 8 = 4 ∧ 8 * (Int32.ofInt z).toInt64.toBitVec.toNat + 4 < 4722366482869645213696
  omega
section FYI
variable {W : ax_W} {r d mi pc : Nat} {L S rest : List Nat} {g : Nat → Nat → Int} {Q : Nat → Nat → (Nat → Nat → Int) → Prop}
theorem fx_i2l (pc' : Nat) {z : Int} (q : (fq mi pc 32 && Nat.beq (sx_wa (fw mi pc)) 1) = true) (hp : pc + 1 = pc') (k : fx W r d mi pc' L (fJ z :: S) g Q) : fx W r d mi pc L (fI z :: S) g Q := by
  subst hp
  obtain ⟨q1, q2⟩ := f_and q
  obtain ⟨o1, o2⟩ := fq_ok q1
  refine fx_s o2 (fun ih D h cs ss _ => ?_) k
  rw [cx_b32 o1]
  unfold sx_oUn
  rw [fcp1, sx_fo_eq, show sx_wa (sx_ft (sx_mt mi).1 pc) = 1 from sx_beq q2, sx_beq_e (by decide), sx_if_f, fI_eq, cx_nm, ax_tg_i, sx_beq_t rfl, sx_if_t, sx_fo_eq, sx_beq_e (by decide), sx_if_f, ax_on_pl]
  rfl
theorem fx_lcmp0 (pc' : Nat) {v : Nat} (q : (fq mi pc 35 && Nat.beq (sx_wa (fw mi pc)) 4) = true) (hp : pc + 1 = pc') (hv : v % 8 = 4) (k : fx W r d mi pc' L (fI 0 :: S) g Q) : fx W r d mi pc L (v :: v :: S) g Q := by
  subst hp
  obtain ⟨q1, q2⟩ := f_and q
  obtain ⟨o1, o2⟩ := fq_ok q1
  refine fx_s o2 (fun ih D h cs ss _ => ?_) k
  have e4 : sx_wa (sx_ft (sx_mt mi).1 pc) = 4 := sx_beq q2
  have ec : ∀ x : Int64, sx_lf 4 x x = fI 0 := fun x => by
    show sx_i (lg_cmp x x) = fI 0
    unfold lg_cmp
    simp
    decide
  rw [cx_b35 o1]
  unfold sx_oLb
  rw [fcp1, fcp1, sx_beq_t (show sx_tg v = 4 from hv), cx_at, cx_at, e4, sx_beq_e (by decide), sx_if_f, sx_if_t, sx_fo_eq, sx_fo_eq, ec]
def f_ql1 (mi pc op p c len : Nat) : Bool := fq mi pc op && (Nat.beq p (8 * c + 2) && (Nat.blt c 160 && (Nat.beq (Nat.mod (ax_cl c).1 256) 101 && (Nat.beq (Nat.div (ax_cl c).1 256) len && Nat.ble len 2147483648))))
theorem f_ql1_ok {op p c len : Nat} (q : f_ql1 mi pc op p c len = true) : sx_op (sx_ft (sx_mt mi).1 pc) = op ∧ sx_wh (sx_ft (sx_mt mi).1 pc) = 0 ∧ p = 8 * c + 2 ∧ c < 160 ∧ (ax_cl c).1 % 256 = 101 ∧ (ax_cl c).1 / 256 = len ∧ len ≤ 2147483648 := by
  obtain ⟨q1, q2⟩ := f_and q
  obtain ⟨q2, q3⟩ := f_and q2
  obtain ⟨q3, q4⟩ := f_and q3
  obtain ⟨q4, q5⟩ := f_and q4
  obtain ⟨q5, q6⟩ := f_and q5
  obtain ⟨o1, o2⟩ := fq_ok q1
  exact ⟨o1, o2, sx_beq q2, sx_blt q3, sx_beq q4, sx_beq q5, sx_ble q6⟩
theorem f_101 {c j : Nat} (h : (ax_cl c).1 % 256 = 101) : fInt c j = false := by
  unfold fInt
  rw [if_neg (by omega), if_neg (by omega)]
theorem fx_lal (p c len pc' : Nat) {i : Int} (q : f_ql1 mi pc 13 p c len = true) (hp : pc + 1 = pc') (h0 : 0 ≤ i) (h1 : i < len) (k : fx W r d mi pc' L (((g c i.toNat).toNat + 4) :: S) g Q) : fx W r d mi pc L (fI i :: p :: S) g Q := by
  subst hp
  obtain ⟨o1, o2, rfl, hc, ha, e, hl⟩ := f_ql1_ok q
  refine fx_s o2 (fun ih D h cs ss hv => ?_) k
  rw [cx_b13 o1]
  unfold sx_oAld
  rw [fcp1, fcp1, f_ref hc, sx_if_t, fI_eq, cx_ix, sx_rdK_eq, f_plr, hv.1 c hc, sx_beq_t (show Nat.mod (ax_cl c).1 256 = 101 from ha), cx_at, fI_n h0 (by omega), sx_blt_t (show i.toNat < Nat.div (ax_cl c).1 256 by show i.toNat < (ax_cl c).1 / 256; omega), sx_if_t, sx_fo_eq, sx_fo_eq, sx_beq_e (by decide), sx_if_f, sx_beq_t rfl, sx_if_t, sx_fo_eq, (hv.2 c i.toNat hc (by omega)).1]
  unfold fEnc
  rw [if_neg (by rw [f_101 ha]; decide)]
theorem fx_las (p c len pc' : Nat) {i : Int} {v : Nat} (q : f_ql1 mi pc 14 p c len = true) (hp : pc + 1 = pc') (h0 : 0 ≤ i) (h1 : i < len) (hq : fPtr c i.toNat = 0) (hv4 : v % 8 = 4) (hvl : v < 4722366482869645213696) (k : fx W r d mi pc' L S (fu g c i.toNat ((v - 4 : Nat) : Int)) Q) : fx W r d mi pc L (v :: fI i :: p :: S) g Q := fun D h cs ss hD hv hr1 hr2 => by
  subst hp
  obtain ⟨o1, o2, rfl, hc, ha, e, hl⟩ := f_ql1_ok q
  have hv' : HV (sx_wr h c ((sx_rd h c).1, sx_set (sx_rd h c).2 i.toNat (v - 4))) (fu g c i.toNat ((v - 4 : Nat) : Int)) := by
    refine ⟨fun c' hc' => ?_, fun c' j' hc' hj' => ?_⟩
    · by_cases e : c' = c
      · subst e; rw [sx_rd_wr]; exact hv.1 _ hc
      · rw [sx_rd_wr_ne _ _ (by omega) (by omega) e]; exact hv.1 _ hc'
    · by_cases e : c' = c
      · subst e
        rw [sx_rd_wr]
        by_cases ej : j' = i.toNat
        · subst ej
          rw [sx_get_set (by omega), fu_eq]
          refine ⟨?_, (fun t => by rw [f_101 ha] at t; cases t), fun t => absurd hq t⟩
          unfold fEnc
          rw [if_neg (by rw [f_101 ha]; decide)]
          rfl
        · rw [sx_get_set_ne (by omega) ej, fu_nj ej]
          exact hv.2 _ _ hc' hj'
      · rw [sx_rd_wr_ne _ _ (by omega) (by omega) e, fu_nc e]
        exact hv.2 _ _ hc' hj'
  refine cx_step rfl o2 (k D _ cs ss hD hv' hr1 hr2) (fun ih => ?_)
  rw [cx_b14 o1]
  unfold sx_oAst
  rw [fcp1, fcp1, fcp1, f_ref hc, sx_if_t, fI_eq i, cx_ix, sx_rdK_eq, f_plr, hv.1 c hc, sx_beq_t (show Nat.mod (ax_cl c).1 256 = 101 from ha), cx_at, fI_n h0 (by omega), sx_blt_t (show i.toNat < Nat.div (ax_cl c).1 256 by show i.toNat < (ax_cl c).1 / 256; omega), sx_if_t, sx_beq_e (by decide), sx_if_f, sx_beq_t rfl, sx_if_t, sx_beq_t (show sx_tg v = 4 from hv4), sx_if_t, sx_blt_t hvl, sx_if_t, sx_fo_eq, sx_if_t, sx_wrK_eq, sx_fo_eq]
  rfl
/-- the script's ints -/
def fScr (W : ax_W) (s : Nat → Int) : Prop := W.N < 2147483648 ∧ ∀ i, i < W.N → fR (s i) ∧ ∃ e, W.sy[i]? = some e ∧ e.1 = sx_b (Int32.ofInt (s i)) ∧ e.2.1 = sx_b (Int32.ofInt (s i))
theorem fx_scr (pc' : Nat) {s : Nat → Int} (hs : fScr W s) {i : Int} (q : fq mi pc 11 = true) (hp : pc + 1 = pc') (h0 : 0 ≤ i) (h1 : i < W.N) (k : fx W r d mi pc' L (fI (s i.toNat) :: S) g Q) : fx W r d mi pc L (fI i :: 5 :: S) g Q := by
  subst hp
  obtain ⟨o1, o2⟩ := fq_ok q
  obtain ⟨hr, e, e1, e2, e3⟩ := hs.2 i.toNat (by omega)
  have hN := hs.1
  refine fx_s o2 (fun ih D h cs ss _ => ?_) k
  have nm : ∀ K : Nat → sx_R, sx_nm W.sy (Nat.succ (Nat.mul 8 i.toNat)) K = K (fI (s i.toNat)) := fun K => by
    unfold sx_nm
    have t1 : sx_tg (Nat.succ (Nat.mul 8 i.toNat)) = 1 := show (8 * i.toNat + 1) % 8 = 1 by omega
    have t2 : sx_pl (Nat.succ (Nat.mul 8 i.toNat)) = i.toNat := show (8 * i.toNat + 1) / 8 = i.toNat by omega
    rw [sx_beq_t t1, sx_if_t, t2, f_nth e1]
    show sx_if (Nat.beq e.1 e.2.1) (sx_fo (Nat.mul 8 (sx_bs e.1)) K) _ = _
    rw [e2, e3, sx_beq_t rfl, sx_if_t, sx_fo_eq]
    have : Nat.mul 8 (sx_bs (sx_b (Int32.ofInt (s i.toNat)))) = fI (s i.toNat) := by
      have eb := fI_b hr
      unfold fR at hr
      show 8 * ((sx_b (Int32.ofInt (s i.toNat)) + 2147483648) % 4294967296) = 8 * (s i.toNat % 4294967296).toNat
      omega
    rw [this]
  rw [cx_b11 o1]
  unfold sx_oIald
  rw [fcp1, fcp1, sx_beq_e (by decide), sx_if_f]
  unfold sx_oAld
  rw [fcp1, fcp1, show sx_and (Nat.beq (sx_tg 5) 2) (Nat.blt (sx_pl 5) 160) = false from rfl, sx_if_f, show sx_and (Nat.beq 5 5) (Nat.beq 100 100) = true from rfl, sx_if_t, fI_eq i, cx_ix, fI_n h0 (by omega), sx_blt_t (show i.toNat < W.N by omega), sx_if_t, nm, sx_fo_eq]
/-- where a throw of E at pc is caught: behind the store into la -/
noncomputable def f_qh (mi pc E p la : Nat) : Bool := Option.rec false (fun hh => !Nat.beq (sx_hnd pc hh E) 0 && (Nat.beq (sx_op (sx_ft (sx_mt mi).1 (Nat.pred (sx_hnd pc hh E)))) 3 && (Nat.beq (Nat.div (sx_wb (sx_ft (sx_mt mi).1 (Nat.pred (sx_hnd pc hh E)))) 16) 1 && (Nat.beq (sx_wa (sx_ft (sx_mt mi).1 (Nat.pred (sx_hnd pc hh E)))) la && Nat.beq (Nat.add (Nat.pred (sx_hnd pc hh E)) (Nat.mod (sx_wb (sx_ft (sx_mt mi).1 (Nat.pred (sx_hnd pc hh E)))) 16)) p)))) (sx_nth sx_hands (sx_ihd (sx_mt mi).2))
def fKH (W : ax_W) (r l d mi pc pc' : Nat) (L rest : List Nat) (Q : Nat → Nat → (Nat → Nat → Int) → Prop) : Nat → Nat → (Nat → Nat → Int) → Prop := fun k v g' => (k = 0 → fx W (r + 1) d mi pc' L rest g' Q) ∧ (k = 1 → fx W (r + 1) d mi pc' L (v :: rest) g' Q) ∧ (∀ E, k = 2 + E → ∃ p la, f_qh mi pc E p la = true ∧ f_lo L la ∧ Nat.blt la L.length = true ∧ fx (fWl W l) r d mi p (L.set la 7) [] g' Q)
theorem fKH1 {l pc' v : Nat} (h : fx W (r + 1) d mi pc' L (v :: rest) g Q) : fKH W r l d mi pc pc' L rest Q 1 v g := ⟨fun t => absurd t (by decide), fun _ => h, fun E t => by omega⟩
theorem fKH2 {l pc' v : Nat} (E p la : Nat) (h1 : f_qh mi pc E p la = true) (h2 : f_lo L la) (h3 : Nat.blt la L.length = true) (h : fx (fWl W l) r d mi p (L.set la 7) [] g Q) : fKH W r l d mi pc pc' L rest Q (2 + E) v g := ⟨fun t => by omega, fun t => by omega, fun E' t => by
  have e : E' = E := by omega
  subst e
  exact ⟨p, la, h1, h2, h3, h⟩⟩
theorem fx_callH {l mj pc' : Nat} {av Lj : List Nat} {dj : Nat} (hl : l + 1 ≤ W.lim) (hh : sx_wh (sx_ft (sx_mt mi).1 pc) = 0)
    (hb : ∀ (ih : sx_ih) D h cs ss, HV h g → sx_body ih W.N (sx_ft (sx_mt mi).1 pc) D mi (sx_mt mi).1 [] pc L S h 160 W.sy cs ss = sx_call ih D mi (sx_mt mi).1 [] pc L h 160 W.sy cs ss av rest mj)
    (hc : sx_and (Nat.blt 0 (sx_mt mj).1) (Nat.ble (Nat.add (Nat.mul 2 (List.length rest)) (sx_im (sx_mt mj).2)) 89) = true) (hd : dj + 1 ≤ d) (hi : sx_ihd (sx_mt mi).2 ≠ 0) (hp : pc + 3 = pc')
    (hx : sx_xp av (sx_im (sx_mt mj).2) = some Lj) (k : fx (fWl W 0) (r + 1) dj mj 0 Lj [] g (fKH W r l d mi pc pc' L rest Q)) : fx W (r + 1) d mi pc L S g Q := fun D h cs ss hD hv h1 h2 => by
  obtain ⟨D', rfl⟩ : ∃ D', D = D' + 1 := ⟨D - 1, by omega⟩
  have hb' : ∀ ih : sx_ih, sx_body ih W.N (sx_ft (sx_mt mi).1 pc) (D' + 1) mi (sx_mt mi).1 [] pc L S h 160 W.sy cs ss = Option.rec none (fun outs => sx_cont ih (D' + 1) mi (sx_mt mi).1 [] pc L rest (sx_ihd (sx_mt mi).2) outs) (ih D' mj (sx_mt mj).1 [] false 0 Lj [] h 160 W.sy cs ss) := fun ih => by
    rw [hb ih (D' + 1) h cs ss hv]
    show sx_mtK mj (fun cj fj => sx_mtK mi (fun _ f =>
      sx_if (sx_and (sx_and (Nat.blt 0 cj) (Nat.ble (Nat.add (Nat.mul 2 (List.length rest)) (sx_im fj)) 89)) (sx_and (Nat.ble cs 600002) (Nat.ble ss 7302232)))
        (Option.rec none (fun Lj => Option.rec none (fun outs => sx_cont ih (D' + 1) mi (sx_mt mi).1 [] pc L rest (sx_ihd f) outs)
          (ih D' mj cj [] false 0 Lj [] h 160 W.sy cs ss)) (sx_xp av (sx_im fj))) none)) = _
    rw [sx_mtK_eq, sx_mtK_eq, hc, cx_at, show Nat.ble cs 600002 = true from Nat.ble_eq.mpr (by omega), show Nat.ble ss 7302232 = true from Nat.ble_eq.mpr (by omega), cx_at, sx_if_t, hx]
  refine cx_call rfl hh hb' ?_
  obtain ⟨co, ev, a1, a2, g', hv', kq, b1, b2⟩ := k D' h cs ss (by omega) hv h1 h2
  refine ⟨co, ev, ?_⟩
  obtain ⟨kd, cv, ch, cn, csy, ccs, css⟩ := co
  have a1 : cn = 160 := a1
  have a2 : csy = W.sy := a2
  subst a1 a2
  subst hp
  by_cases c0 : kd = 0
  · subst c0
    obtain ⟨e1, e2⟩ := b1 (Nat.zero_le 1)
    have e1 : ccs ≤ cs + 0 := e1
    have e2 : css ≤ ss + 6 * 0 := e2
    obtain ⟨o, ⟨f0, hf⟩, u1, u2, u3, u4, u5, u6, u7⟩ := kq.1 rfl (D' + 1) ch ccs css hD hv' (by omega) (by omega)
    exact ⟨o, ⟨f0, fun f hle => cx_app1 _ _ (hf f hle)⟩, u1, u2, u3, u4, u5, fun t => by have := u6 t; omega, fun t => by have := u7 t; omega⟩
  · by_cases c1 : kd = 1
    · subst c1
      obtain ⟨e1, e2⟩ := b1 (Nat.le_refl 1)
      have e1 : ccs ≤ cs + 0 := e1
      have e2 : css ≤ ss + 6 * 0 := e2
      obtain ⟨o, ⟨f0, hf⟩, u1, u2, u3, u4, u5, u6, u7⟩ := kq.2.1 rfl (D' + 1) ch ccs css hD hv' (by omega) (by omega)
      exact ⟨o, ⟨f0, fun f hle => cx_app1 _ _ (hf f hle)⟩, u1, u2, u3, u4, u5, fun t => by have := u6 t; omega, fun t => by have := u7 t; omega⟩
    · have c2 : 1 < kd := by omega
      obtain ⟨e0, e1, e2⟩ := b2 c2
      have e1 : ccs ≤ cs + 1 + 0 := e1
      have e2 : css ≤ ss + 6 + 6 * 0 := e2
      obtain ⟨p, la, q1, q2, q3, q4⟩ := kq.2.2 (kd - 2) (by omega)
      obtain ⟨o, ⟨f0, hf⟩, u1, u2, u3, u4, u5, u6, u7⟩ := q4 (D' + 1) ch ccs css hD hv' (by omega) (by omega)
      have u6 : o.1 ≤ 1 → o.2.2.2.2.2.1 ≤ ccs + l ∧ o.2.2.2.2.2.2 ≤ css + 6 * l := u6
      have u7 : 1 < o.1 → 1 ≤ r ∧ o.2.2.2.2.2.1 ≤ ccs + 1 + l ∧ o.2.2.2.2.2.2 ≤ css + 6 + 6 * l := u7
      refine ⟨o, ⟨f0, fun f hle => ?_⟩, u1, u2, u3, u4, u5, fun t => by have := u6 t; omega, fun t => by have := u7 t; omega⟩
      show sx_app (sx_if (Nat.beq kd 0) _ (sx_if (Nat.beq kd 1) _ (sx_thr _ _ _ _ _ _ _ _ (Nat.sub kd 2) _ _ _ _ _))) (some []) = _
      rw [sx_beq_e c0, sx_if_f, sx_beq_e c1, sx_if_f]
      apply cx_app1
      unfold f_qh at q1
      unfold sx_thr
      rw [sx_beq_e hi, sx_if_f]
      cases hn : sx_nth sx_hands (sx_ihd (sx_mt mi).2) with
      | none => rw [hn] at q1; cases q1
      | some hh' =>
        rw [hn] at q1
        obtain ⟨r1, r2⟩ := f_and q1
        obtain ⟨r2, r3⟩ := f_and r2
        obtain ⟨r3, r4⟩ := f_and r3
        obtain ⟨r4, r5⟩ := f_and r4
        have r1 : Nat.beq (sx_hnd pc hh' (kd - 2)) 0 = false := by
          cases e : Nat.beq (sx_hnd pc hh' (kd - 2)) 0 with
          | true => rw [e] at r1; cases r1
          | false => rfl
        show sx_fo (sx_hnd pc hh' (kd - 2)) _ = _
        rw [sx_fo_eq, r1, sx_if_f, sx_fo_eq, r2, r3, cx_at, cx_at, sx_beq r4, f_lo_ok q2, cx_at, q3, sx_if_t, sx_fo_eq, show Nat.add (Nat.pred (sx_hnd pc hh' (kd - 2))) (Nat.mod (sx_wb (sx_ft (sx_mt mi).1 (Nat.pred (sx_hnd pc hh' (kd - 2))))) 16) = p from sx_beq r5, sx_stK_eq]
        exact hf f hle
end FYI
