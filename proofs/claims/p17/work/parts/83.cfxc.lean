/-! fx: cells, calls, ends -/
theorem f_ref {c n : Nat} (hc : c < n) : sx_and (Nat.beq (sx_tg (8 * c + 2)) 2) (Nat.blt (sx_pl (8 * c + 2)) n) = true := by
  rw [sx_beq_t (show sx_tg (8 * c + 2) = 2 from (show (8 * c + 2) % 8 = 2 by omega)), cx_at]
  exact sx_blt_t (show (8 * c + 2) / 8 < n by omega)
theorem f_plr (c : Nat) : sx_pl (8 * c + 2) = c := show (8 * c + 2) / 8 = c by omega
section FXC
variable {W : ax_W} {r d mi pc : Nat} {L S : List Nat} {g : Nat → Nat → Int} {Q : Nat → Nat → (Nat → Nat → Int) → Prop}
/-- the place of a field -/
def f_qg (mi pc op p c j pc' : Nat) : Bool := fq mi pc op && (Nat.beq p (8 * c + 2) && (Nat.blt c 160 && (Nat.blt j (Nat.div (ax_cl c).1 256) && (Nat.beq (Nat.mod (sx_slot (Nat.mod (ax_cl c).1 256) (sx_wa (fw mi pc))) 32) (Nat.succ j) && Nat.beq (Nat.add pc 3) pc'))))
theorem f_qg_ok {op p c j pc' : Nat} (q : f_qg mi pc op p c j pc' = true) : sx_op (sx_ft (sx_mt mi).1 pc) = op ∧ sx_wh (sx_ft (sx_mt mi).1 pc) = 0 ∧ p = 8 * c + 2 ∧ c < 160 ∧ j < (ax_cl c).1 / 256 ∧ Nat.pred (Nat.mod (sx_slot (Nat.mod (ax_cl c).1 256) (sx_wa (sx_ft (sx_mt mi).1 pc))) 32) = j ∧ ¬ sx_slot (Nat.mod (ax_cl c).1 256) (sx_wa (sx_ft (sx_mt mi).1 pc)) = 0 ∧ Nat.add pc 3 = pc' := by
  obtain ⟨q1, q2⟩ := f_and q
  obtain ⟨q2, q3⟩ := f_and q2
  obtain ⟨q3, q4⟩ := f_and q3
  obtain ⟨q4, q5⟩ := f_and q4
  obtain ⟨q5, q6⟩ := f_and q5
  obtain ⟨o1, o2⟩ := fq_ok q1
  have e : Nat.mod (sx_slot (Nat.mod (ax_cl c).1 256) (sx_wa (sx_ft (sx_mt mi).1 pc))) 32 = Nat.succ j := sx_beq q5
  refine ⟨o1, o2, sx_beq q2, sx_blt q3, sx_blt q4, by rw [e]; rfl, fun h => ?_, sx_beq q6⟩
  rw [h] at e
  cases e
theorem f_get {op p c j pc' : Nat} (q : f_qg mi pc 9 p c j pc' = true) (ih : sx_ih) (D : Nat) (h : sx_H) (cs ss : Nat) (hv : HV h g) : sx_body ih W.N (sx_ft (sx_mt mi).1 pc) D mi (sx_mt mi).1 [] pc L (p :: S) h 160 W.sy cs ss = ih D mi (sx_mt mi).1 [] false pc' L (sx_get (sx_rd h c).2 j :: S) h 160 W.sy cs ss := by
  obtain ⟨o1, o2, rfl, hc, hj, e1, e2, e3⟩ := f_qg_ok q
  rw [cx_b9 o1]
  unfold sx_oGet
  rw [fcp1, f_ref hc, sx_if_t, sx_rdK_eq, f_plr, hv.1 c hc, sx_fo_eq, sx_beq_e e2, sx_if_f, sx_fo_eq, e1, sx_fo_eq, e3]
theorem fx_gi (p c j pc' : Nat) (q : (f_qg mi pc 9 p c j pc' && fInt c j) = true) (k : fx W r d mi pc' L (fI (g c j) :: S) g Q) : fx W r d mi pc L (p :: S) g Q := by
  obtain ⟨q1, q2⟩ := f_and q
  obtain ⟨o1, o2, -, hc, hj, e1, e2, e3⟩ := f_qg_ok q1
  refine fx_s o2 (fun ih D h cs ss hv => ?_) k
  rw [f_get (op := 9) q1 ih D h cs ss hv, (hv.2 c j hc hj).1]
  unfold fEnc
  rw [if_pos q2]
theorem fx_gp (p c j v pc' : Nat) (q : (f_qg mi pc 9 p c j pc' && (Nat.beq (fPtr c j) v && Nat.blt 0 v)) = true) (k : fx W r d mi pc' L (v :: S) g Q) : fx W r d mi pc L (p :: S) g Q := by
  obtain ⟨q1, q2⟩ := f_and q
  obtain ⟨q2, q3⟩ := f_and q2
  obtain ⟨o1, o2, -, hc, hj, e1, e2, e3⟩ := f_qg_ok q1
  have q2 : fPtr c j = v := sx_beq q2
  have q3 : 0 < v := sx_blt q3
  refine fx_s o2 (fun ih D h cs ss hv => ?_) k
  rw [f_get (op := 9) q1 ih D h cs ss hv, (hv.2 c j hc hj).2.2 (by omega), q2]
theorem f_put {p c j pc' : Nat} {z : Int} (q : f_qg mi pc 10 p c j pc' = true) (hk : sx_if (Nat.beq (Nat.div (sx_slot (Nat.mod (ax_cl c).1 256) (sx_wa (fw mi pc))) 32) 0) (Nat.ble (sx_tg (fI z)) 1) (sx_if (Nat.beq (Nat.div (sx_slot (Nat.mod (ax_cl c).1 256) (sx_wa (fw mi pc))) 32) 1) (sx_and (Nat.beq (sx_tg (fI z)) 0) (Nat.ble (sx_pl (fI z)) 1)) (Nat.beq (sx_tg (fI z)) 2)) = true) (ih : sx_ih) (D : Nat) (h : sx_H) (cs ss : Nat) (hv : HV h g) : sx_body ih W.N (sx_ft (sx_mt mi).1 pc) D mi (sx_mt mi).1 [] pc L (fI z :: p :: S) h 160 W.sy cs ss = ih D mi (sx_mt mi).1 [] false pc' L S (sx_wr h c ((sx_rd h c).1, sx_set (sx_rd h c).2 j (fI z))) 160 W.sy cs ss := by
  obtain ⟨o1, o2, rfl, hc, hj, e1, e2, e3⟩ := f_qg_ok q
  rw [cx_b10 o1]
  unfold sx_oPut
  rw [fcp1, fcp1, f_ref hc, sx_if_t, sx_rdK_eq, f_plr, hv.1 c hc, sx_fo_eq, sx_beq_e e2, sx_if_f]
  have hk : sx_if (Nat.beq (Nat.div (sx_slot (Nat.mod (ax_cl c).1 256) (sx_wa (sx_ft (sx_mt mi).1 pc))) 32) 0) (Nat.ble (sx_tg (fI z)) 1) (sx_if (Nat.beq (Nat.div (sx_slot (Nat.mod (ax_cl c).1 256) (sx_wa (sx_ft (sx_mt mi).1 pc))) 32) 1) (sx_and (Nat.beq (sx_tg (fI z)) 0) (Nat.ble (sx_pl (fI z)) 1)) (Nat.beq (sx_tg (fI z)) 2)) = true := hk
  rw [hk, sx_if_t, sx_blt_t (show fI z < 4722366482869645213696 by have := fI_lt z; omega), sx_if_t, sx_fo_eq, e1, sx_wrK_eq, sx_fo_eq, e3]
theorem fx_pi (p c j pc' : Nat) {z : Int} (q : (f_qg mi pc 10 p c j pc' && (fInt c j && (Nat.beq (fPtr c j) 0 && Nat.beq (Nat.div (sx_slot (Nat.mod (ax_cl c).1 256) (sx_wa (fw mi pc))) 32) 0))) = true) (hz : fR z) (k : fx W r d mi pc' L S (fu g c j z) Q) : fx W r d mi pc L (fI z :: p :: S) g Q := by
  obtain ⟨q1, q2⟩ := f_and q
  obtain ⟨q2, q3⟩ := f_and q2
  obtain ⟨q3, q4⟩ := f_and q3
  obtain ⟨o1, o2, -, hc, hj, e1, e2, e3⟩ := f_qg_ok q1
  exact fx_sp hc hj q2 (sx_beq q3) hz o2 (fun ih D h cs ss hv => f_put q1 (by rw [q4, sx_if_t, fI_tg]; rfl) ih D h cs ss hv) k
theorem fx_pb (p c j pc' : Nat) {z : Int} (q : (f_qg mi pc 10 p c j pc' && (fInt c j && (Nat.beq (fPtr c j) 0 && Nat.beq (Nat.div (sx_slot (Nat.mod (ax_cl c).1 256) (sx_wa (fw mi pc))) 32) 1))) = true) (hz : z = 0 ∨ z = 1) (k : fx W r d mi pc' L S (fu g c j z) Q) : fx W r d mi pc L (fI z :: p :: S) g Q := by
  obtain ⟨q1, q2⟩ := f_and q
  obtain ⟨q2, q3⟩ := f_and q2
  obtain ⟨q3, q4⟩ := f_and q3
  obtain ⟨o1, o2, -, hc, hj, e1, e2, e3⟩ := f_qg_ok q1
  have q4' := sx_beq q4
  refine fx_sp hc hj q2 (sx_beq q3) (by unfold fR; omega) o2 (fun ih D h cs ss hv => f_put q1 ?_ ih D h cs ss hv) k
  rw [q4', sx_beq_e (by decide), sx_if_f, sx_beq_t rfl, sx_if_t]
  rcases hz with rfl | rfl <;> decide +kernel
/-! arrays -/
theorem f_okp {c j : Nat} (hc : c < 160) (ha : (ax_cl c).1 % 256 = 100) : fInt c j = true ∧ fPtr c j = 0 := by
  refine ⟨by unfold fInt; rw [if_pos ha], ?_⟩
  have ok := f_okc_all c hc
  unfold f_okc at ok
  rw [if_pos ha] at ok
  unfold fPtr
  cases e : ax_sg (ax_cl c).2.2 (j % (ax_cl c).2.1) (j % (ax_cl c).2.1) with
  | none => rfl
  | some s =>
    have := List.all_eq_true.mp ok s (ax_sg_mem e)
    simp only [Bool.or_eq_true] at this
    show (if s.2.1 = 1 then s.2.2.1 else 0) = 0
    rw [if_neg]
    rcases this with t | t
    · have := sx_beq t; omega
    · have := sx_beq t; omega
def f_qa (mi pc op p c len : Nat) : Bool := fq mi pc op && (Nat.beq p (8 * c + 2) && (Nat.blt c 160 && (Nat.beq (Nat.mod (ax_cl c).1 256) 100 && Nat.beq (Nat.div (ax_cl c).1 256) len)))
theorem f_qa_ok {op p c len : Nat} (q : f_qa mi pc op p c len = true) : sx_op (sx_ft (sx_mt mi).1 pc) = op ∧ sx_wh (sx_ft (sx_mt mi).1 pc) = 0 ∧ p = 8 * c + 2 ∧ c < 160 ∧ (ax_cl c).1 % 256 = 100 ∧ (ax_cl c).1 / 256 = len := by
  obtain ⟨q1, q2⟩ := f_and q
  obtain ⟨q2, q3⟩ := f_and q2
  obtain ⟨q3, q4⟩ := f_and q3
  obtain ⟨q4, q5⟩ := f_and q4
  obtain ⟨o1, o2⟩ := fq_ok q1
  exact ⟨o1, o2, sx_beq q2, sx_blt q3, sx_beq q4, sx_beq q5⟩
theorem fx_al (p c len pc' : Nat) {i : Int} (q : f_qa mi pc 11 p c len = true) (hp : pc + 1 = pc') (h0 : 0 ≤ i) (h1 : i < len) (hl : Nat.ble len 2147483648 = true) (k : fx W r d mi pc' L (fI (g c i.toNat) :: S) g Q) : fx W r d mi pc L (fI i :: p :: S) g Q := by
  subst hp
  obtain ⟨o1, o2, rfl, hc, ha, e⟩ := f_qa_ok q
  have hl := sx_ble hl
  refine fx_s o2 (fun ih D h cs ss hv => ?_) k
  rw [cx_b11 o1]
  unfold sx_oIald
  rw [fcp1, fcp1, sx_beq_e (show ¬ 8 * c + 2 = 13 by omega), sx_if_f]
  unfold sx_oAld
  rw [fcp1, fcp1, f_ref hc, sx_if_t, fI_eq, cx_ix, sx_rdK_eq, f_plr, hv.1 c hc, sx_beq_t (show Nat.mod (ax_cl c).1 256 = 100 from ha), cx_at, fI_n h0 (by omega), sx_blt_t (show i.toNat < Nat.div (ax_cl c).1 256 by show i.toNat < (ax_cl c).1 / 256; omega), sx_if_t, sx_fo_eq, sx_fo_eq, sx_beq_t rfl, sx_if_t, (hv.2 c i.toNat hc (by omega)).1]
  unfold fEnc
  rw [if_pos (f_okp hc ha).1]
theorem fx_as (p c len pc' : Nat) {i z : Int} (q : f_qa mi pc 12 p c len = true) (hp : pc + 1 = pc') (h0 : 0 ≤ i) (h1 : i < len) (hl : Nat.ble len 2147483648 = true) (hz : fR z) (k : fx W r d mi pc' L S (fu g c i.toNat z) Q) : fx W r d mi pc L (fI z :: fI i :: p :: S) g Q := by
  subst hp
  obtain ⟨o1, o2, rfl, hc, ha, e⟩ := f_qa_ok q
  have hl := sx_ble hl
  refine fx_sp hc (show i.toNat < _ by omega) (f_okp hc ha).1 (f_okp hc ha).2 hz o2 (fun ih D h cs ss hv => ?_) k
  rw [cx_b12 o1]
  unfold sx_oAst
  rw [fcp1, fcp1, fcp1, f_ref hc, sx_if_t, fI_eq i, cx_ix, sx_rdK_eq, f_plr, hv.1 c hc, sx_beq_t (show Nat.mod (ax_cl c).1 256 = 100 from ha), cx_at, fI_n h0 (by omega), sx_blt_t (show i.toNat < Nat.div (ax_cl c).1 256 by show i.toNat < (ax_cl c).1 / 256; omega), sx_if_t, sx_beq_t rfl, sx_if_t, fI_tg, show Nat.ble 0 1 = true from rfl, sx_if_t, sx_blt_t (show fI z < 4722366482869645213696 by have := fI_lt z; omega), sx_if_t, sx_fo_eq, sx_beq_e (by decide), sx_if_f, sx_wrK_eq, sx_fo_eq]
/-! ends -/
theorem fx_ret {z : Int} (q : (fq mi pc 26 && Nat.beq (sx_wa (fw mi pc)) 0) = true) (k : Q 1 (fI z) g) : fx W r d mi pc L [fI z] g Q := fun D h cs ss hd hv h1 h2 => by
  obtain ⟨q1, q2⟩ := f_and q
  obtain ⟨o1, o2⟩ := fq_ok q1
  refine cx_end rfl o2 (o := (1, fI z, h, 160, W.sy, cs, ss)) ⟨rfl, rfl, g, hv, k, fun _ => ⟨Nat.le_add_right _ _, Nat.le_add_right _ _⟩, fun t => absurd t (show ¬ 1 < 1 by decide)⟩ (fun ih => ?_)
  rw [cx_b26 o1]
  unfold sx_oRet
  rw [fcp1, show sx_wa (sx_ft (sx_mt mi).1 pc) = 0 from sx_beq q2, sx_beq_t rfl, sx_if_t, fI_tg]
  rfl
theorem fx_retb {z : Int} (q : (fq mi pc 26 && Nat.beq (sx_wa (fw mi pc)) 1) = true) (hz : z = 0 ∨ z = 1) (k : Q 1 (fI z) g) : fx W r d mi pc L [fI z] g Q := fun D h cs ss hd hv h1 h2 => by
  obtain ⟨q1, q2⟩ := f_and q
  obtain ⟨o1, o2⟩ := fq_ok q1
  refine cx_end rfl o2 (o := (1, fI z, h, 160, W.sy, cs, ss)) ⟨rfl, rfl, g, hv, k, fun _ => ⟨Nat.le_add_right _ _, Nat.le_add_right _ _⟩, fun t => absurd t (show ¬ 1 < 1 by decide)⟩ (fun ih => ?_)
  rw [cx_b26 o1]
  unfold sx_oRet
  rw [fcp1, show sx_wa (sx_ft (sx_mt mi).1 pc) = 1 from sx_beq q2, sx_beq_e (by decide), sx_if_f, sx_beq_t rfl, sx_if_t]
  have e : sx_and (Nat.beq (sx_tg (fI z)) 0) (Nat.ble (sx_pl (fI z)) 1) = true := by rcases hz with rfl | rfl <;> decide +kernel
  rw [e]
  rfl
theorem fx_retc {z : Int} (b : Nat) (q : (fq mi pc 43 && Nat.beq (sx_if (Nat.beq (sx_wa (fw mi pc)) 0) 128 65536) b) = true) (h0 : 0 ≤ z) (hb : z < b) (hb2 : Nat.ble b 65536 = true) (k : Q 1 (fI z) g) : fx W r d mi pc L [fI z] g Q := fun D h cs ss hd hv h1 h2 => by
  obtain ⟨q1, q2⟩ := f_and q
  obtain ⟨o1, o2⟩ := fq_ok q1
  have hb2 := sx_ble hb2
  refine cx_end rfl o2 (o := (1, fI z, h, 160, W.sy, cs, ss)) ⟨rfl, rfl, g, hv, k, fun _ => ⟨Nat.le_add_right _ _, Nat.le_add_right _ _⟩, fun t => absurd t (show ¬ 1 < 1 by decide)⟩ (fun ih => ?_)
  rw [cx_b43 o1]
  unfold sx_oRetN
  rw [fcp1, fI_tg, show sx_if (Nat.beq (sx_wa (sx_ft (sx_mt mi).1 pc)) 0) 128 65536 = b from sx_beq q2, sx_blt_t (show sx_pl (fI z) < b by show fI z / 8 < b; unfold fI; omega)]
  rfl
theorem fx_vret (q : fq mi pc 27 = true) (k : Q 0 0 g) : fx W r d mi pc L [] g Q := fun D h cs ss hd hv h1 h2 => by
  obtain ⟨o1, o2⟩ := fq_ok q
  refine cx_end rfl o2 (o := (0, 0, h, 160, W.sy, cs, ss)) ⟨rfl, rfl, g, hv, k, fun _ => ⟨Nat.le_add_right _ _, Nat.le_add_right _ _⟩, fun t => absurd t (show ¬ 1 < 0 by decide)⟩ (fun ih => ?_)
  rw [cx_b27 o1]
  rfl
theorem fx_throw (E : Nat) (q : (fq mi pc 28 && (Nat.beq (Nat.mod (sx_wb (fw mi pc)) 16) E && Nat.beq (sx_ihd (sx_mt mi).2) 0)) = true) (hS : Nat.ble S.length 40 = true) (hr : 1 ≤ r) (k : Q (2 + E) 0 g) : fx W r d mi pc L S g Q := fun D h cs ss hd hv h1 h2 => by
  obtain ⟨q1, q2⟩ := f_and q
  obtain ⟨q2, q3⟩ := f_and q2
  obtain ⟨o1, o2⟩ := fq_ok q1
  refine cx_end rfl o2 (o := (2 + E, 0, h, 160, W.sy, cs + 1, ss + 6)) ⟨rfl, rfl, g, hv, k, fun t => absurd t (show ¬ 2 + E ≤ 1 by omega), fun t => ⟨hr, Nat.le_add_right _ _, Nat.le_add_right _ _⟩⟩ (fun ih => ?_)
  rw [cx_b28 o1]
  unfold sx_oThrow
  rw [sx_mtK_eq, q3, hS, cx_at, cx_at, sx_blt_t (show cs < 600002 by omega), cx_at, show Nat.ble (Nat.add ss 6) 7302232 = true from Nat.ble_eq.mpr (show ss + 6 ≤ 7302232 by omega), sx_if_t, sx_fo_eq, sx_fo_eq, show Nat.mod (sx_wb (sx_ft (sx_mt mi).1 pc)) 16 = E from sx_beq q2]
  rfl
theorem fx_dup (pc' : Nat) {v : Nat} (q : fq mi pc 29 = true) (hp : pc + 1 = pc') (h4 : v % 8 ≠ 4) (k : fx W r d mi pc' L (v :: v :: S) g Q) : fx W r d mi pc L (v :: S) g Q := by
  subst hp
  obtain ⟨o1, o2⟩ := fq_ok q
  refine fx_s o2 (fun ih D h cs ss _ => ?_) k
  rw [cx_b29 o1]
  unfold sx_oDup
  rw [fcp1, sx_beq_e (show ¬ sx_tg v = 4 from h4), sx_if_f, sx_fo_eq]
theorem fx_dup2 (pc' : Nat) {v u : Nat} (q : fq mi pc 30 = true) (hp : pc + 1 = pc') (h4 : v % 8 ≠ 4) (h4' : u % 8 ≠ 4) (k : fx W r d mi pc' L (v :: u :: v :: u :: S) g Q) : fx W r d mi pc L (v :: u :: S) g Q := by
  subst hp
  obtain ⟨o1, o2⟩ := fq_ok q
  refine fx_s o2 (fun ih D h cs ss _ => ?_) k
  rw [cx_b30 o1]
  unfold sx_oDup2
  rw [fcp1, sx_fo_eq, sx_beq_e (show ¬ sx_tg v = 4 from h4), sx_if_f, fcp1, sx_beq_e (show ¬ sx_tg u = 4 from h4'), sx_if_f]
theorem fx_pop (pc' : Nat) {v : Nat} (q : fq mi pc 31 = true) (hp : pc + 1 = pc') (h4 : v % 8 ≠ 4) (k : fx W r d mi pc' L S g Q) : fx W r d mi pc L (v :: S) g Q := by
  subst hp
  obtain ⟨o1, o2⟩ := fq_ok q
  refine fx_s o2 (fun ih D h cs ss _ => ?_) k
  rw [cx_b31 o1]
  unfold sx_oPop
  rw [fcp1, sx_beq_e (show ¬ sx_tg v = 4 from h4), sx_if_f, sx_fo_eq]
end FXC
