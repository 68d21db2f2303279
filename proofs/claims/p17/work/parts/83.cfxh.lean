/-! fx: Strings; words, signs, numbers as the reference reads them -/
theorem fop_shr_all : ∀ n, n < 1000 → fI (fop 7 ((n : Nat) : Int) 0) = fI (n : Int) := by decide +kernel
theorem fop_and_all : ∀ n, n < 128 → fI (fop 3 ((n : Nat) : Int) 255) = fI (n : Int) := by decide +kernel
section FXH
variable {W : ax_W} {r : Nat} {g : Nat → Nat → Int} {Q : Nat → Nat → (Nat → Nat → Int) → Prop} {T : Int → Int} {E : Int} {s : Nat}
theorem sp_coder (hs : f_sk s) (kq : Q 1 (fI 0) g) : fx W r 0 81 0 [s] [] g Q := by
  refine fx_gs 8 3 (by decide +kernel) ?_
  rw [show (8 : Nat) = fI 1 from rfl]
  refine fx_zeq 13 6 (by decide +kernel) (by unfold fR; omega) (fun hc => absurd hc (by decide)) (fun _ => ?_)
  refine fx_la 0 7 (v := s) (by decide +kernel) rfl (f_sty hs) ?_
  refine fx_sc 10 (by decide +kernel) hs.1 ?_
  refine fx_go 14 (by decide +kernel) ?_
  refine fx_retc 128 (by decide +kernel) (by omega) (by omega) rfl ?_
  exact kq
theorem sp_len (hs : f_sk s) (kq : Q 1 (fI ((fStr s).length : Int)) g) : fx W r 1 80 0 [s] [] g Q := by
  refine fx_la 0 1 (v := s) (by decide +kernel) rfl (f_sty hs) ?_
  refine fx_sv 4 _ (by decide +kernel) hs.1 rfl ?_
  refine fx_alb 5 (by decide +kernel) rfl hs ?_
  refine fx_la 0 6 (v := s) (by decide +kernel) rfl (f_sty hs) ?_
  refine fx_c1 81 39 9 0 [] (f_q39 hs.1 (by decide +kernel)) (f_s4 hs) rfl (by first | decide | omega) ?_
  refine sp_coder hs (fK1 ?_)
  refine fx_bin 7 10 (by decide +kernel) rfl (fun h => absurd h (by decide)) ?_
  rw [fop_shr_all _ hs.2.2.1]
  refine fx_ret (by decide +kernel) ?_
  exact kq
theorem sp_isLatin (hs : f_sk s) (kq : Q 1 (fI 1) g) : fx W r 0 83 0 [s] [] g Q := by
  refine fx_gs 8 3 (by decide +kernel) ?_
  rw [show (8 : Nat) = fI 1 from rfl]
  refine fx_zeq 17 6 (by decide +kernel) (by unfold fR; omega) (fun hc => absurd hc (by decide)) (fun _ => ?_)
  refine fx_la 0 7 (v := s) (by decide +kernel) rfl (f_sty hs) ?_
  refine fx_sc 10 (by decide +kernel) hs.1 ?_
  refine fx_zne 17 13 (by decide +kernel) (by unfold fR; omega) (fun hc => absurd hc (by decide)) (fun _ => ?_)
  refine fx_ci (1) 14 (by decide +kernel) ?_
  refine fx_go 18 (by decide +kernel) ?_
  refine fx_retb (by decide +kernel) (by first | exact Or.inl rfl | exact Or.inr rfl | omega) ?_
  exact kq
theorem sp_pci {i n : Int} (h0 : 0 ≤ i) (h1 : i < n) (hn : n < 1000) (kq : Q 1 (fI i) g) : fx W r 0 86 0 [fI i, fI n, 15] [] g Q := by
  refine fx_li 0 1 (by decide +kernel) rfl ?_
  refine fx_zlt 9 4 (by decide +kernel) (by unfold fR; omega) (fun h => by omega) (fun _ => ?_)
  refine fx_li 0 5 (by decide +kernel) rfl ?_
  refine fx_li 1 6 (by decide +kernel) rfl ?_
  refine fx_ilt 16 9 (by decide +kernel) (by unfold fR; omega) (by unfold fR; omega) (fun _ => ?_) (fun h => by omega)
  refine fx_li 0 17 (by decide +kernel) rfl ?_
  exact fx_ret (by decide +kernel) kq
theorem sp_ci {i n : Int} (h0 : 0 ≤ i) (h1 : i < n) (hn : n < 1000) (kq : Q 0 0 g) : fx W r 1 85 0 [fI i, fI n] [] g Q := by
  refine fx_li 0 1 (by decide +kernel) rfl ?_
  refine fx_li 1 2 (by decide +kernel) rfl ?_
  refine fx_gs 15 5 (by decide +kernel) ?_
  refine fx_c3 86 22 8 0 [] (f_q22 (by decide +kernel)) (by decide) (fI_n4 _) (fI_n4 _) (by decide) rfl (by first | decide | omega) ?_
  refine sp_pci h0 h1 hn (fK1 ?_)
  refine fx_pop 9 (by decide +kernel) rfl (fI_n4 _) ?_
  refine fx_vret (by decide +kernel) ?_
  exact kq
theorem sp_lcharAt {i : Int} (hs : f_sk s) (h0 : 0 ≤ i) (h1 : i < (fStr s).length) (kq : Q 1 (fI ((fStr s).getD i.toNat 0 : Nat)) g) : fx W r 2 84 0 [Nat.add (Nat.mul 8 (Nat.add (sx_pl s) sx_ns)) 5, fI i] [] g Q := by
  have hl := hs.2.2.1
  have hb : (fStr s).getD i.toNat 0 < 128 := by
    refine hs.2.2.2 _ (List.mem_of_getElem? (i := i.toNat) ?_)
    rw [List.getD_eq_getElem?_getD, List.getElem?_eq_getElem (by omega)]
    rfl
  refine fx_li 1 1 (by decide +kernel) rfl ?_
  refine fx_la 0 2 (v := Nat.add (Nat.mul 8 (Nat.add (sx_pl s) sx_ns)) 5) (by decide +kernel) rfl (f_bty) ?_
  refine fx_alb 3 (by decide +kernel) rfl hs ?_
  refine fx_c2 85 22 6 1 [] (f_q22 (by decide +kernel)) (by decide) (fI_n4 _) (fI_n4 _) rfl (by first | decide | omega) ?_
  refine sp_ci h0 h1 (by omega) (fK0 ?_)
  refine fx_la 0 7 (v := Nat.add (Nat.mul 8 (Nat.add (sx_pl s) sx_ns)) 5) (by decide +kernel) rfl (f_bty) ?_
  refine fx_li 1 8 (by decide +kernel) rfl ?_
  refine fx_bal 9 (by decide +kernel) rfl hs (by omega) (by omega) ?_
  refine fx_ci (255) 12 (by decide +kernel) ?_
  refine fx_bin 3 13 (by decide +kernel) rfl (fun h => absurd h (by decide)) ?_
  rw [fop_and_all _ hb]
  refine fx_i2c 14 (by decide +kernel) rfl (by omega) (by omega) ?_
  refine fx_retc 65536 (by decide +kernel) (by omega) (by omega) rfl ?_
  exact kq
theorem sp_charAt {i : Int} (hs : f_sk s) (h0 : 0 ≤ i) (h1 : i < (fStr s).length) (kq : Q 1 (fI ((fStr s).getD i.toNat 0 : Nat)) g) : fx W r 3 82 0 [s, fI i] [] g Q := by
  have hb : (fStr s).getD i.toNat 0 < 128 := by
    refine hs.2.2.2 _ (List.mem_of_getElem? (i := i.toNat) ?_)
    rw [List.getD_eq_getElem?_getD, List.getElem?_eq_getElem (by omega)]
    rfl
  refine fx_la 0 1 (v := s) (by decide +kernel) rfl (f_sty hs) ?_
  refine fx_c1 83 39 4 0 [] (f_q39 hs.1 (by decide +kernel)) (f_s4 hs) rfl (by first | decide | omega) ?_
  refine sp_isLatin hs (fK1 ?_)
  · refine fx_zeq 16 7 (by decide +kernel) (by unfold fR; omega) (fun hc => absurd hc (by decide)) (fun _ => ?_)
    refine fx_la 0 8 (v := s) (by decide +kernel) rfl (f_sty hs) ?_
    refine fx_sv 11 _ (by decide +kernel) hs.1 rfl ?_
    refine fx_li 1 12 (by decide +kernel) rfl ?_
    refine fx_c2 84 22 15 2 [] (f_q22 (by decide +kernel)) (by decide) f_b4 (fI_n4 _) rfl (by first | decide | omega) ?_
    refine sp_lcharAt hs h0 h1 (fK1 ?_)
    refine fx_retc 65536 (by decide +kernel) (by omega) (by omega) rfl ?_
    exact kq
end FXH
