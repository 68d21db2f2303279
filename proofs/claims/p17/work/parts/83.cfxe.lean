/-! fx: Strings, arrays as a whole -/
section FXE
variable {W : ax_W} {r d mi pc : Nat} {L S : List Nat} {g : Nat → Nat → Int} {Q : Nat → Nat → (Nat → Nat → Int) → Prop}
theorem fx_lds (v pc' : Nat) (q : (fq mi pc 33 && (Nat.blt (sx_wa (fw mi pc)) sx_ns && (Nat.beq (Nat.add pc (sx_wb (fw mi pc))) pc' && Nat.beq (Nat.add (Nat.mul 8 (Nat.add 2 (sx_wa (fw mi pc)))) 5) v))) = true) (k : fx W r d mi pc' L (v :: S) g Q) : fx W r d mi pc L S g Q := by
  obtain ⟨q1, q2⟩ := f_and q
  obtain ⟨q2, q3⟩ := f_and q2
  obtain ⟨q3, q4⟩ := f_and q3
  obtain ⟨o1, o2⟩ := fq_ok q1
  refine fx_s o2 (fun ih D h cs ss _ => ?_) k
  rw [cx_b33 o1]
  unfold sx_oLdcS
  rw [show Nat.blt (sx_wa (sx_ft (sx_mt mi).1 pc)) sx_ns = true from q2, sx_if_t, sx_fo_eq, sx_fo_eq, show Nat.add pc (sx_wb (sx_ft (sx_mt mi).1 pc)) = pc' from sx_beq q3, show Nat.add (Nat.mul 8 (Nat.add 2 (sx_wa (sx_ft (sx_mt mi).1 pc)))) 5 = v from sx_beq q4]
theorem fx_gs (v pc' : Nat) (q : (fq mi pc 34 && (Nat.beq (sx_wc (fw mi pc)) v && Nat.beq (Nat.add pc 3) pc')) = true) (k : fx W r d mi pc' L (v :: S) g Q) : fx W r d mi pc L S g Q := by
  obtain ⟨q1, q2⟩ := f_and q
  obtain ⟨q2, q3⟩ := f_and q2
  obtain ⟨o1, o2⟩ := fq_ok q1
  refine fx_s o2 (fun ih D h cs ss _ => ?_) k
  rw [cx_b34 o1]
  unfold sx_oGets
  rw [sx_fo_eq, sx_fo_eq, show sx_wc (sx_ft (sx_mt mi).1 pc) = v from sx_beq q2, show Nat.add pc 3 = pc' from sx_beq q3]
/-- of a String its coder, 0 -/
theorem fx_sc (pc' : Nat) {v : Nat} (q : (fq mi pc 38 && (Nat.beq (sx_wb (fw mi pc)) 0 && Nat.beq (Nat.add pc 3) pc')) = true) (hs : sx_isS v = true) (k : fx W r d mi pc' L (fI 0 :: S) g Q) : fx W r d mi pc L (v :: S) g Q := by
  obtain ⟨q1, q2⟩ := f_and q
  obtain ⟨q2, q3⟩ := f_and q2
  obtain ⟨o1, o2⟩ := fq_ok q1
  refine fx_s o2 (fun ih D h cs ss _ => ?_) k
  rw [cx_b38 o1]
  unfold sx_oSget
  rw [fcp1, hs, sx_if_t, sx_fo_eq, show Nat.beq (sx_wb (sx_ft (sx_mt mi).1 pc)) 0 = true from q2, sx_if_t, show Nat.add pc 3 = pc' from sx_beq q3]
  rfl
/-- of a String its bytes -/
theorem fx_sv (pc' u : Nat) {v : Nat} (q : (fq mi pc 38 && (Nat.beq (sx_wb (fw mi pc)) 1 && Nat.beq (Nat.add pc 3) pc')) = true) (hs : sx_isS v = true) (hu : Nat.add (Nat.mul 8 (Nat.add (sx_pl v) sx_ns)) 5 = u) (k : fx W r d mi pc' L (u :: S) g Q) : fx W r d mi pc L (v :: S) g Q := by
  obtain ⟨q1, q2⟩ := f_and q
  obtain ⟨q2, q3⟩ := f_and q2
  obtain ⟨o1, o2⟩ := fq_ok q1
  refine fx_s o2 (fun ih D h cs ss _ => ?_) k
  rw [cx_b38 o1]
  unfold sx_oSget
  rw [fcp1, hs, sx_if_t, sx_fo_eq, show sx_wb (sx_ft (sx_mt mi).1 pc) = 1 from sx_beq q2, sx_beq_e (by decide), sx_if_f, sx_fo_eq, show Nat.add pc 3 = pc' from sx_beq q3, hu]
/-- the bytes of the String v -/
def fStr (v : Nat) : List Nat := (sx_sb[sx_pl v - 2]?).getD []
theorem f_nth {α : Type} {l : List α} {k : Nat} {a : α} (h : l[k]? = some a) : sx_nth l k = some a := by rw [sx_nth_eq, h]
/-- v's bytes are known -/
def f_sk (v : Nat) : Prop := sx_isS v = true ∧ sx_sb[sx_pl v - 2]? = some (fStr v) ∧ (fStr v).length < 1000 ∧ ∀ b ∈ fStr v, b < 128
theorem f_isB {v : Nat} (hs : sx_isS v = true) : sx_isB (Nat.add (Nat.mul 8 (Nat.add (sx_pl v) sx_ns)) 5) = true ∧ Nat.sub (sx_pl (Nat.add (Nat.mul 8 (Nat.add (sx_pl v) sx_ns)) 5)) (Nat.add 2 sx_ns) = sx_pl v - 2 := by
  obtain ⟨h1, h2⟩ := sx_and_ok hs
  obtain ⟨h2, h3⟩ := sx_and_ok h2
  have h2 := sx_ble h2
  have e : sx_pl (Nat.add (Nat.mul 8 (Nat.add (sx_pl v) sx_ns)) 5) = sx_pl v + sx_ns := show (8 * (sx_pl v + sx_ns) + 5) / 8 = _ by omega
  refine ⟨?_, ?_⟩
  · unfold sx_isB
    rw [sx_beq_t (show sx_tg (Nat.add (Nat.mul 8 (Nat.add (sx_pl v) sx_ns)) 5) = 5 from show (8 * (sx_pl v + sx_ns) + 5) % 8 = 5 by omega), cx_at, e]
    exact Nat.ble_eq.mpr (show 2 + sx_ns ≤ sx_pl v + sx_ns by omega)
  · rw [e]
    show sx_pl v + sx_ns - (2 + sx_ns) = _
    omega
theorem fx_alb (pc' : Nat) {v : Nat} (q : fq mi pc 17 = true) (hp : pc + 1 = pc') (hs : f_sk v) (k : fx W r d mi pc' L (fI ((fStr v).length : Int) :: S) g Q) : fx W r d mi pc L (Nat.add (Nat.mul 8 (Nat.add (sx_pl v) sx_ns)) 5 :: S) g Q := by
  subst hp
  obtain ⟨o1, o2⟩ := fq_ok q
  obtain ⟨b1, b2⟩ := f_isB hs.1
  refine fx_s o2 (fun ih D h cs ss _ => ?_) k
  rw [cx_b17 o1]
  unfold sx_oAlenX
  rw [fcp1, b1, sx_if_t, b2, f_nth hs.2.1]
  show sx_fo _ _ = _
  have := hs.2.2.1
  rw [sx_fo_eq, sx_fo_eq, show Nat.mul 8 (List.length (fStr v)) = fI ((fStr v).length : Int) from by unfold fI; show 8 * _ = 8 * _; omega]
theorem fx_bal (pc' : Nat) {v : Nat} {i : Int} (q : fq mi pc 36 = true) (hp : pc + 1 = pc') (hs : f_sk v) (h0 : 0 ≤ i) (h1 : i < (fStr v).length) (k : fx W r d mi pc' L (fI (((fStr v).getD i.toNat 0 : Nat) : Int) :: S) g Q) : fx W r d mi pc L (fI i :: Nat.add (Nat.mul 8 (Nat.add (sx_pl v) sx_ns)) 5 :: S) g Q := by
  subst hp
  obtain ⟨o1, o2⟩ := fq_ok q
  obtain ⟨b1, b2⟩ := f_isB hs.1
  have hl := hs.2.2.1
  refine fx_s o2 (fun ih D h cs ss _ => ?_) k
  rw [cx_b36 o1]
  unfold sx_oBald
  rw [fcp1, fcp1, b1, sx_if_t, b2, f_nth hs.2.1]
  have e : (fStr v)[i.toNat]? = some ((fStr v).getD i.toNat 0) := by
    rw [List.getD_eq_getElem?_getD, List.getElem?_eq_getElem (by omega)]
    rfl
  have e8 : Nat.mul 8 ((fStr v).getD i.toNat 0) = fI (((fStr v).getD i.toNat 0 : Nat) : Int) := by
    have := hs.2.2.2 _ (List.mem_of_getElem? e)
    unfold fI
    show 8 * _ = 8 * _
    omega
  show sx_ix (fI i) W.sy _ = _
  rw [fI_eq, cx_ix, fI_n h0 (by omega), f_nth e]
  show sx_fo _ _ = _
  rw [sx_fo_eq, sx_fo_eq, e8]
theorem fx_i2c (pc' : Nat) {z : Int} (q : fq mi pc 42 = true) (hp : pc + 1 = pc') (h0 : 0 ≤ z) (h1 : z < 65536) (k : fx W r d mi pc' L (fI z :: S) g Q) : fx W r d mi pc L (fI z :: S) g Q := by
  subst hp
  obtain ⟨o1, o2⟩ := fq_ok q
  refine fx_s o2 (fun ih D h cs ss _ => ?_) k
  rw [cx_b42 o1]
  unfold sx_oI2c
  rw [fcp1, fI_eq, cx_nm, ← fI_eq, fI_tg, sx_beq_t rfl, cx_at, sx_blt_t (show sx_pl (fI z) < 65536 by show fI z / 8 < _; unfold fI; omega), sx_if_t, sx_fo_eq]
/-- all of the array a into the array b -/
def fcy (g : Nat → Nat → Int) (a b : Nat) : Nat → Nat → Int := fun c j => if c = b then g a j else g c j
theorem fx_cpy (pa a pb b len pc' : Nat) (q : (fq mi pc 25 && (Nat.beq pa (8 * a + 2) && (Nat.beq pb (8 * b + 2) && (Nat.blt a 160 && (Nat.blt b 160 && (Nat.beq (Nat.mod (ax_cl a).1 256) 100 && (Nat.beq (ax_cl a).1 (ax_cl b).1 && (Nat.beq (Nat.div (ax_cl a).1 256) len && (Nat.blt len 2147483648 && Nat.beq (Nat.add pc 3) pc'))))))))) = true) (hl : Nat.ble S.length 40 = true) (k : fx W r d mi pc' L S (fcy g a b) Q) : fx W r d mi pc L (fI (len : Int) :: fI 0 :: pb :: fI 0 :: pa :: S) g Q := fun D h cs ss hD hv h1 h2 => by
  obtain ⟨q1, q⟩ := f_and q
  obtain ⟨q2, q⟩ := f_and q
  obtain ⟨q3, q⟩ := f_and q
  obtain ⟨q4, q⟩ := f_and q
  obtain ⟨q5, q⟩ := f_and q
  obtain ⟨q6, q⟩ := f_and q
  obtain ⟨q7, q⟩ := f_and q
  obtain ⟨q8, q⟩ := f_and q
  obtain ⟨q9, q10⟩ := f_and q
  obtain ⟨o1, o2⟩ := fq_ok q1
  have q2 := sx_beq q2
  have q3 := sx_beq q3
  have q4 := sx_blt q4
  have q5 := sx_blt q5
  have q6' : (ax_cl a).1 % 256 = 100 := sx_beq q6
  have q7 : (ax_cl a).1 = (ax_cl b).1 := sx_beq q7
  have q8 : (ax_cl a).1 / 256 = len := sx_beq q8
  have q9' := sx_blt q9
  subst q2 q3
  have hv' : HV (sx_wr h b ((sx_rd h b).1, (sx_rd h a).2)) (fcy g a b) := by
    refine ⟨fun c' hc' => ?_, fun c' j' hc' hj' => ?_⟩
    · by_cases e : c' = b
      · subst e; rw [sx_rd_wr]; exact hv.1 _ hc'
      · rw [sx_rd_wr_ne _ _ (by omega) (by omega) e]; exact hv.1 _ hc'
    · unfold fcy
      by_cases e : c' = b
      · subst e
        rw [sx_rd_wr, if_pos rfl]
        have u := hv.2 a j' q4 (by rw [q7]; exact hj')
        have o1 := f_okp (j := j') q4 q6'
        have o2 := f_okp (j := j') q5 (by rw [← q7]; exact q6')
        refine ⟨?_, fun _ => u.2.1 o1.1, fun t => absurd o2.2 t⟩
        show sx_get (sx_rd h a).2 j' = _
        rw [u.1]
        unfold fEnc
        rw [if_pos o1.1, if_pos o2.1]
      · rw [sx_rd_wr_ne _ _ (by omega) (by omega) e, if_neg e]
        exact hv.2 _ _ hc' hj'
  refine cx_step rfl o2 (k D _ cs ss hD hv' h1 h2) (fun ih => ?_)
  rw [cx_b25 o1]
  unfold sx_oCpy
  have e8 : fI (len : Int) = Nat.mul 8 (Nat.div (ax_cl a).1 256) := by
    unfold fI
    show 8 * _ = 8 * ((ax_cl a).1 / 256)
    omega
  rw [fcp1, fcp1, fcp1, fcp1, fcp1, hl, cx_at, show Nat.beq (fI 0) 0 = true from rfl, cx_at, f_ref q4, f_ref q5, cx_at, cx_at, sx_if_t, sx_rdK_eq, sx_rdK_eq, f_plr, f_plr, hv.1 a q4, hv.1 b q5, q6, cx_at, sx_beq_t q7, cx_at, sx_blt_t (show Nat.div (ax_cl a).1 256 < 2147483648 from by show (ax_cl a).1 / 256 < _; omega), cx_at, e8, sx_beq_t rfl, sx_if_t, sx_wrK_eq, sx_fo_eq, show Nat.add pc 3 = pc' from sx_beq q10]
end FXE
