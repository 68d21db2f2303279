/-! sx: what holds at the law's entry -/
def sx_pm : List Cond → List Nat → List Cond → Bool
  | _, [], [] => true
  | l, g :: gs, w :: ws => match l.drop g with
    | a :: l' => decide (a = w) && sx_pm l' gs ws
    | [] => false
  | _, _, _ => false
theorem sx_pm_ok : ∀ {gs : List Nat} {ws l : List Cond}, sx_pm l gs ws = true → ∀ w ∈ ws, w ∈ l
  | [], [], l, _, w, hw => by cases hw
  | [], _ :: _, l, h, _, _ => by simp [sx_pm] at h
  | _ :: _, [], l, h, _, _ => by simp [sx_pm] at h
  | g :: gs, w :: ws, l, h, v, hv => by
    unfold sx_pm at h
    cases hd : l.drop g with
    | nil => rw [hd] at h; cases h
    | cons a l' =>
      rw [hd] at h
      simp only [Bool.and_eq_true, decide_eq_true_eq] at h
      obtain ⟨rfl, h2⟩ := h
      have hsub : ∀ x ∈ a :: l', x ∈ l := fun x hx => List.mem_of_mem_drop (hd ▸ hx)
      rcases List.mem_cons.mp hv with rfl | hv
      · exact hsub _ List.mem_cons_self
      · exact hsub _ (List.mem_cons_of_mem _ (sx_pm_ok h2 v hv))
def sx_sw : List Cond := [.arrayOver (.object "AbsentRings$Table"), .castable "java/lang/IllegalArgumentException" "java/lang/IllegalArgumentException", .declares (Bundle.initS "java/lang/RuntimeException"), .declares (Bundle.initS "java/lang/Exception"), .declares (Bundle.initS Bundle.tN), .laysStatic Bundle.tN "UNASSIGNED_STACK" Bundle.steD, .laysStatic Bundle.tN "SUPPRESSED_SENTINEL" Bundle.listD, .castable "java/lang/UnsupportedOperationException" "java/lang/UnsupportedOperationException", .castable "java/lang/IndexOutOfBoundsException" "java/lang/IndexOutOfBoundsException", .castable "java/util/NoSuchElementException" "java/util/NoSuchElementException", .castable "java/lang/IllegalStateException" "java/lang/IllegalStateException", .laysStatic "java/lang/String" "COMPACT_STRINGS" "Z", .laysStatic "AbsentRings$Sides" "ORDERS" "[I", .laysStatic "jdk/internal/util/Preconditions" "SIOOBE_FORMATTER" "Ljava/util/function/BiFunction;", .initialized "java/lang/String", .initialized "AbsentRings$Sides", .initialized "jdk/internal/util/Preconditions", .declares sx_rl]
theorem sx_z33 : sx_pm lw_tbl sx_nlg (sx_nl.map (fun t => .methodLinkNest t.1 t.2.1 t.2.2.1 t.2.2.2)) = true := by decide +kernel
theorem sx_z77b : sx_pm lw_tbl sx_srg (sx_sr.map (fun t => .stringRef t.1 t.2.1 t.2.2)) = true := by decide +kernel
theorem sx_zsw0 : sx_sw.all (fun w => decide (w ∈ lw_tbl)) = true := by decide +kernel
theorem sx_zsw {w : Cond} (h : w ∈ sx_sw) : w ∈ lw_tbl := of_decide_eq_true (List.all_eq_true.mp sx_zsw0 w h)
def sx_gn : List Cond := flatC (Jvm.Cond.and given_1 narrow_1)
theorem sx_ncast : sx_exc.all (fun x => sx_exc.all (fun y => decide (x = y) || decide (Cond.not (.castable x y) ∈ sx_gn))) = true := by decide +kernel
theorem sx_nst : (Cond.isRef (.static Bundle.tN "UNASSIGNED_STACK" Bundle.steD)) ∈ sx_gn ∧ (Cond.isRef (.static Bundle.tN "SUPPRESSED_SENTINEL" Bundle.listD)) ∈ sx_gn := by decide +kernel
/-! the Strings -/
def sx_tm (k : Nat) : Term := .string (sx_sr.getD k ("", 0, "")).1 (sx_sr.getD k ("", 0, "")).2.1
def sx_tv (k : Nat) : Term := .field (sx_tm k) "java/lang/String" "value" "[B"
def sx_sc (k : Nat) : List Cond := [.exactly (sx_tm k) "java/lang/String", .eq (.field (sx_tm k) "java/lang/String" "coder" "B") (.int 0), .arrayOf (sx_tv k) .byte, .eq (.length (sx_tv k)) (.int (Int32.ofNat (sx_sb.getD k []).length))] ++ (List.range (sx_sb.getD k []).length).map (fun j => .eq (.elem (sx_tv k) (.int (Int32.ofNat j))) (.int (Int32.ofNat ((sx_sb.getD k []).getD j 0))))
def sx_so : List Nat := [0, 1, 2, 3, 4, 5, 6, 7, 8, 9, 10, 11, 12, 13, 14, 15, 16, 17, 18, 19, 20, 21, 22, 23, 24, 25, 26, 27, 28, 29, 30, 31, 32, 33, 34, 35, 36, 37, 38, 39, 40, 41, 42, 43, 44, 45, 46, 47, 48, 49, 50, 51, 52, 53, 54, 55, 56, 57, 58, 59, 60, 61, 62, 63, 64, 65, 66, 67, 68, 69, 70]
def sx_sg : List Nat := [103, 0, 0, 0, 0, 0, 0, 0, 0, 0, 0, 0, 0, 0, 0, 0, 0, 0, 0, 0, 0, 0, 0, 0, 0, 0, 0, 0, 0, 0, 0, 0, 0, 0, 0, 0, 0, 0, 0, 0, 0, 0, 0, 0, 0, 0, 0, 0, 0, 0, 0, 0, 0, 0, 0, 0, 0, 0, 0, 0, 0, 0, 0, 0, 0, 0, 0, 0, 0, 0, 0, 0, 0, 0, 0, 0, 0, 0, 0, 0, 0, 0, 0, 0, 0, 0, 0, 0, 0, 0, 0, 0, 0, 0, 0, 0, 0, 0, 0, 0, 0, 0, 0, 0, 0, 0, 0, 0, 0, 0, 0, 0, 0, 0, 0, 0, 0, 0, 0, 0, 0, 0, 0, 0, 0, 0, 0, 0, 0, 0, 0, 0, 0, 0, 0, 0, 0, 0, 0, 0, 0, 0, 0, 0, 0, 0, 0, 0, 0, 0, 0, 0, 0, 0, 0, 0, 0, 0, 0, 0, 0, 0, 0, 0, 0, 0, 0, 0, 0, 0, 0, 0, 0, 0, 0, 0, 0, 0, 0, 0, 0, 0, 0, 0, 0, 1, 0, 0, 0, 0, 0, 0, 0, 0, 0, 0, 0, 0, 0, 0, 0, 0, 1, 0, 0, 0, 0, 0, 0, 0, 0, 0, 0, 0, 0, 0, 0, 0, 1, 0, 0, 0, 0, 0, 0, 0, 0, 0, 1, 0, 0, 0, 0, 0, 0, 0, 0, 1, 0, 0, 0, 0, 0, 0, 0, 0, 0, 0, 0, 0, 0, 0, 0, 0, 0, 0, 0, 0, 0, 0, 0, 0, 0, 0, 0, 0, 0, 0, 0, 0, 0, 0, 0, 0, 0, 0, 0, 0, 0, 0, 0, 0, 0, 0, 0, 0, 0, 0, 0, 0, 0, 0, 0, 0, 0, 0, 0, 0, 0, 0, 0, 0, 0, 0, 0, 0, 0, 0, 0, 0, 0, 0, 0, 0, 0, 0, 0, 0, 0, 0, 0, 0, 0, 0, 0, 0, 0, 0, 0, 0, 0, 0, 0, 0, 0, 0, 0, 0, 0, 0, 0, 0, 0, 0, 0, 0, 0, 0, 0, 0, 0, 0, 0, 0, 0, 0, 0, 0, 0, 0, 0, 0, 0, 0, 0, 0, 0, 0, 0, 0, 0, 0, 0, 0, 0, 0, 0, 0, 0, 0, 0, 0, 0, 0, 0, 0, 0, 0, 0, 0, 0, 0, 0, 0, 0, 0, 0, 0, 0, 0, 0, 0, 0, 0, 0, 0, 0, 0, 0, 0, 0, 0, 0, 0, 0, 0, 0, 0, 0, 0, 0, 0, 0, 0, 0, 0, 0, 0, 0, 0, 0, 0, 0, 0, 0, 0, 0, 0, 0, 0, 0, 0, 0, 0, 0, 0, 0, 0, 0, 0, 0, 0, 0, 0, 0, 0, 0, 0, 0, 0, 0, 0, 0, 0, 0, 0, 0, 0, 0, 0, 0, 0, 0, 0, 0, 0, 0, 0, 0, 0, 0, 0, 0, 0, 0, 0, 0, 0, 0, 0, 0, 0, 0, 0, 0, 0, 0, 0, 0, 0, 0, 0, 0, 0, 0, 0, 0, 0, 0, 0, 0, 0, 0, 0, 0, 0, 0, 0, 0, 0, 0, 0, 0, 0, 0, 0, 0, 0, 0, 0, 0, 0, 0, 0, 0, 0, 0, 0, 0, 0, 0, 0, 0, 0, 0, 0, 0, 0, 0, 0, 0, 0, 0, 0, 0, 0, 0, 0, 0, 0, 0, 0, 0, 0, 0, 0, 0, 0, 0, 0, 0, 0, 0, 0, 0, 0, 0, 0, 0, 0, 0, 0, 0, 0, 0, 0, 0, 0, 0, 0, 0, 0, 0, 0, 0, 0, 0, 0, 0, 0, 0, 0, 0, 0, 0, 0, 0, 0, 0, 0, 0, 0, 0, 0, 0, 0, 0, 0, 0, 0, 0, 0, 0, 0, 0, 0, 0, 0, 0, 0, 0, 0, 0, 0, 0, 0, 0, 0, 0, 0, 0, 0, 0, 0, 0, 0, 0, 0, 0, 0, 0, 0, 0, 0, 0, 0, 0, 0, 0, 0, 0, 0, 0, 0, 0, 0, 0, 0, 0, 0, 0, 0, 0, 0, 0, 0, 0, 0, 0, 0, 0, 0, 0, 0, 0, 0, 0, 0, 0, 0, 0, 0, 0, 0, 0, 0, 0, 0, 0, 0, 0, 0, 0, 0, 0, 0, 0, 0, 0, 0, 0, 0, 0, 0, 0, 0, 0, 0, 0, 0, 0, 0, 0, 0, 0, 0, 0, 0, 0, 0, 0, 0, 0, 0, 0, 0, 0, 0, 0, 0, 0, 0, 0, 0, 0, 0, 0, 0, 0, 0, 0, 0, 0, 0, 0, 0, 0, 0, 0, 0, 0, 0, 0, 0, 0, 0, 0, 0, 0, 0, 0, 0, 0, 0, 0, 0, 0, 0, 0, 0, 0, 0, 0, 0, 0, 0, 0, 0, 0, 0, 0, 0, 0, 0, 0, 0, 0, 0, 0, 0, 0, 0, 0, 0, 0, 0, 0, 0, 0, 0, 0, 0, 0, 0, 0, 0, 0, 1, 0, 0, 0, 0, 0, 0, 0, 1, 0, 0, 0, 0, 0, 0, 1, 0, 0, 0, 0, 0, 1, 0, 0, 0, 0, 0, 0, 1, 0, 0, 0, 0, 0, 0, 0, 0, 0, 0, 0, 1, 0, 0, 0, 0, 0, 0, 0, 0, 1, 0, 0, 0, 0, 0, 0, 0, 0, 0, 2, 0, 0, 0, 0, 0, 0, 0, 0, 1, 0, 0, 0, 0, 0, 0, 0, 2, 0, 0, 0, 0, 0, 0, 0, 1, 0, 0, 0, 0, 0, 0, 0, 2, 0, 0, 0, 0, 0, 0, 0, 0, 0, 2, 0, 0, 0, 0, 0, 0, 0, 0, 2, 0, 0, 0, 0, 0, 0, 1, 0, 0, 0, 0, 0, 1, 0, 0, 0, 0, 0, 1, 0, 0, 0, 0, 0, 0, 0, 1, 0, 0, 0, 0, 0, 0, 0, 1, 0, 0, 0, 0, 0, 0, 0, 0, 1, 0, 0, 0, 0, 0, 0, 0, 1, 0, 0, 0, 0, 0, 0, 0, 0, 1, 0, 0, 0, 0, 0, 0, 0, 1, 0, 0, 0, 0, 0, 0, 0, 0, 0, 0]
theorem sx_zsc : sx_pm sx_gn sx_sg (sx_so.flatMap sx_sc) = true := by decide +kernel
theorem sx_zso : (List.range 71).all (fun k => sx_so.contains k && decide ((sx_sb.getD k []).length < 2147483648)) = true := by decide +kernel
theorem sx_srl71 : sx_sr.length = 71 ∧ sx_sb.length = 71 := by decide +kernel
def sx_oc : List Cond := [.isRef (.static "AbsentRings$Sides" "ORDERS" "[I"), .arrayOf (.static "AbsentRings$Sides" "ORDERS" "[I") .int, .eq (.length (.static "AbsentRings$Sides" "ORDERS" "[I")) (.int 9), .eq (.static "java/lang/String" "COMPACT_STRINGS" "Z") (.int 1), .isRef (.static "jdk/internal/util/Preconditions" "SIOOBE_FORMATTER" "Ljava/util/function/BiFunction;")] ++ (List.range 9).map (fun j => .eq (.elem (.static "AbsentRings$Sides" "ORDERS" "[I") (.int (Int32.ofNat j))) (.int (Int32.ofNat (sx_ordv.getD j 0))))
theorem sx_zoc0 : sx_oc.all (fun w => decide (w ∈ sx_gn)) = true := by decide +kernel
theorem sx_zoc {w : Cond} (h : w ∈ sx_oc) : w ∈ sx_gn := of_decide_eq_true (List.all_eq_true.mp sx_zoc0 w h)
section SXStart
variable {s : State} {b : Nat}
theorem sx_sc_in {k : Nat} (hk : k < 71) {w : Cond} (h : w ∈ sx_sc k) : w ∈ sx_gn := by
  have h0 := List.all_eq_true.mp sx_zso k (List.mem_range.mpr hk)
  rw [Bool.and_eq_true] at h0
  exact sx_pm_ok sx_zsc w (List.mem_flatMap.mpr ⟨k, List.contains_iff_mem.mp h0.1, h⟩)
theorem sx_str1 (hgv : (Jvm.Cond.and given_1 narrow_1).before #[Value.ref b] s = true) (k : Nat) : ∃ z : Nat × Nat, k < 71 → (sx_tm k).eval #[Value.ref b] s none [] s = some (.ref z.1) ∧ va_O "java/lang/String" z.1 (fun q => s.heap.size ≤ q) s s.heap ∧ va_OF "java/lang/String" "coder" "B" (.int 0) z.1 (fun q => s.heap.size ≤ q) s s.heap ∧ va_OF "java/lang/String" "value" "[B" (.ref z.2) z.1 (fun q => s.heap.size ≤ q) s s.heap ∧ va_T .byte z.2 (sx_sb.getD k []).length (fun j => .int (Int32.ofNat ((sx_sb.getD k []).getD j 0))) (fun q => s.heap.size ≤ q) s s.heap := by
  by_cases hk : k < 71
  · have hfl := flat_of_before _ hgv
    have hA : ∀ a : Nat, a < s.heap.size → ¬ (fun q => s.heap.size ≤ q) a := fun a ha h => absurd ha (Nat.not_lt.mpr h)
    have hc : ∀ w ∈ sx_sc k, w.before #[Value.ref b] s = true := fun w hw => hfl w (sx_sc_in hk hw)
    have h0 := List.all_eq_true.mp sx_zso k (List.mem_range.mpr hk)
    rw [Bool.and_eq_true] at h0
    have hlen := of_decide_eq_true h0.2
    have hex := hc (.exactly (sx_tm k) "java/lang/String") (List.mem_append_left _ List.mem_cons_self)
    have hco := hc (.eq (.field (sx_tm k) "java/lang/String" "coder" "B") (.int 0)) (List.mem_append_left _ (List.mem_cons_of_mem _ List.mem_cons_self))
    have har := hc (.arrayOf (sx_tv k) .byte) (List.mem_append_left _ (List.mem_cons_of_mem _ (List.mem_cons_of_mem _ List.mem_cons_self)))
    have hle := hc (.eq (.length (sx_tv k)) (.int (Int32.ofNat (sx_sb.getD k []).length))) (List.mem_append_left _ (List.mem_cons_of_mem _ (List.mem_cons_of_mem _ (List.mem_cons_of_mem _ List.mem_cons_self))))
    have hel : ∀ j : Nat, j < (sx_sb.getD k []).length → (Cond.eq (.elem (sx_tv k) (.int (Int32.ofNat j))) (.int (Int32.ofNat ((sx_sb.getD k []).getD j 0)))).before #[Value.ref b] s = true := fun j hj => hc _ (List.mem_append_right _ (List.mem_map.mpr ⟨j, List.mem_range.mpr hj, rfl⟩))
    obtain ⟨a, c, cA, kA, q1, q2, q3, q4, q5, q6, -⟩ := Cond.exactly_spec (args := #[Value.ref b]) (first := s) (o := none) (s := s) (idx := []) (t := sx_tm k) (cls := "java/lang/String") hex
    obtain ⟨t, ht, hT⟩ := va_Tof (f := fun j => .int (Int32.ofNat ((sx_sb.getD k []).getD j 0))) (A := fun q => s.heap.size ≤ q) (by omega) har (va_eqt hle) (fun j hj => va_eqt (hel j hj)) hA
    exact ⟨(a, t), fun _ => ⟨q1, ⟨cA, q3, q5, by rw [q6]; exact q2, hA a (Array.getElem?_eq_some_iff.mp q3).1⟩, vk_OFof q1 (va_eqt hco) hA, vk_OFof q1 ht hA, hT⟩⟩
  · exact ⟨(0, 0), fun h => absurd h hk⟩
theorem sx_Kx_start (hts : ∀ w ∈ lw_tbl, w.before #[Value.ref b] s = true) (hgv : (Jvm.Cond.and given_1 narrow_1).before #[Value.ref b] s = true) : ∃ bb : Nat → Nat, bb 0 = b ∧ sx_Kx bb (fun q => s.heap.size ≤ q) s s.heap := by
  have hfl := flat_of_before _ hgv
  have hA : ∀ a : Nat, a < s.heap.size → ¬ (fun q => s.heap.size ≤ q) a := fun a ha h => absurd ha (Nat.not_lt.mpr h)
  have hoc : ∀ w ∈ sx_oc, w.before #[Value.ref b] s = true := fun w hw => hfl w (sx_zoc hw)
  have hsw : ∀ w ∈ sx_sw, w.before #[Value.ref b] s = true := fun w hw => hts w (sx_zsw hw)
  obtain ⟨f, hf⟩ := Classical.axiomOfChoice (fun k => sx_str1 hgv k)
  have hoel : ∀ j : Nat, j < 9 → (Cond.eq (.elem (.static "AbsentRings$Sides" "ORDERS" "[I") (.int (Int32.ofNat j))) (.int (Int32.ofNat (sx_ordv.getD j 0)))).before #[Value.ref b] s = true := fun j hj => hoc _ (List.mem_append_right _ (List.mem_map.mpr ⟨j, List.mem_range.mpr hj, rfl⟩))
  obtain ⟨t, ht, hT⟩ := va_Tof (N := 9) (f := fun j => .int (Int32.ofNat (sx_ordv.getD j 0))) (A := fun q => s.heap.size ≤ q) (by decide) (hoc (.arrayOf (.static "AbsentRings$Sides" "ORDERS" "[I") .int) (by decide +kernel)) (va_eqt (hoc (.eq (.length (.static "AbsentRings$Sides" "ORDERS" "[I")) (.int 9)) (by decide +kernel))) (fun j hj => va_eqt (hoel j hj)) hA
  obtain ⟨u, hu, hur⟩ := Cond.isRef_spec (hoc (.isRef (.static "jdk/internal/util/Preconditions" "SIOOBE_FORMATTER" "Ljava/util/function/BiFunction;")) (by decide +kernel))
  have hlen := sx_srl71
  refine ⟨fun i => if i = 0 then b else if i = 1 then t else if i < 73 then (f (i - 2)).1 else (f (i - 73)).2, rfl, fun k q hq => ?_, fun k tx htx => ?_, ⟨?_, ?_, ?_⟩, ⟨u, ?_, ?_⟩, ?_⟩
  · have hk : k < 71 := by have := (List.getElem?_eq_some_iff.mp hq).1; omega
    obtain ⟨h1, h2, h3, h4, h5⟩ := hf k hk
    have e1 : (if 2 + k = 0 then b else if 2 + k = 1 then t else if 2 + k < 73 then (f (2 + k - 2)).1 else (f (2 + k - 73)).2) = (f k).1 := by
      rw [if_neg (by omega), if_neg (by omega), if_pos (by omega), show 2 + k - 2 = k by omega]
    have e2 : (if 2 + k + sx_ns = 0 then b else if 2 + k + sx_ns = 1 then t else if 2 + k + sx_ns < 73 then (f (2 + k + sx_ns - 2)).1 else (f (2 + k + sx_ns - 73)).2) = (f k).2 := by
      have e : sx_ns = 71 := rfl
      rw [e, if_neg (by omega), if_neg (by omega), if_neg (by omega), show 2 + k + 71 - 73 = k by omega]
    have eq : sx_sr.getD k ("", 0, "") = q := by rw [List.getD_eq_getElem?_getD, hq]; rfl
    have htm : sx_tm k = .string q.1 q.2.1 := by unfold sx_tm; rw [eq]
    rw [htm] at h1
    dsimp only
    rw [e1, e2]
    exact ⟨vk_R.of (hts _ (sx_pm_ok sx_z77b _ (List.mem_map.mpr ⟨q, List.mem_of_getElem? hq, rfl⟩))) h1, h2, h3, h4⟩
  · have hk : k < 71 := by have := (List.getElem?_eq_some_iff.mp htx).1; omega
    obtain ⟨h1, h2, h3, h4, h5⟩ := hf k hk
    have e2 : (if 2 + sx_ns + k = 0 then b else if 2 + sx_ns + k = 1 then t else if 2 + sx_ns + k < 73 then (f (2 + sx_ns + k - 2)).1 else (f (2 + sx_ns + k - 73)).2) = (f k).2 := by
      have e : sx_ns = 71 := rfl
      rw [e, if_neg (by omega), if_neg (by omega), if_neg (by omega), show 2 + 71 + k - 73 = k by omega]
    have eq : sx_sb.getD k [] = tx := by rw [List.getD_eq_getElem?_getD, htx]; rfl
    rw [eq] at h5
    dsimp only
    rw [e2]
    exact h5
  · exact va_Zof (hsw (.laysStatic "java/lang/String" "COMPACT_STRINGS" "Z") (by decide +kernel)) (hsw (.initialized "java/lang/String") (by decide +kernel)) (va_eqt (hoc (.eq (.static "java/lang/String" "COMPACT_STRINGS" "Z") (.int 1)) (by decide +kernel))) hA
  · exact va_Zof (hsw (.laysStatic "AbsentRings$Sides" "ORDERS" "[I") (by decide +kernel)) (hsw (.initialized "AbsentRings$Sides") (by decide +kernel)) ht hA
  · exact hT
  · cases u <;> simp [Value.isRef] at hur <;> rfl
  · exact va_Zof (hsw (.laysStatic "jdk/internal/util/Preconditions" "SIOOBE_FORMATTER" "Ljava/util/function/BiFunction;") (by decide +kernel)) (hsw (.initialized "jdk/internal/util/Preconditions") (by decide +kernel)) hu hA
  · exact va_Nw.of rfl (hsw (.declares sx_rl) (by decide +kernel))
theorem sx_cself (hts : ∀ w ∈ lw_tbl, w.before #[Value.ref b] s = true) : ∀ x ∈ sx_exc, (Cond.castable x x).before #[Value.ref b] s = true := by
  intro x hx
  have hall : sx_exc.all (fun x => decide (Cond.castable x x ∈ sx_sw)) = true := by decide +kernel
  exact hts _ (sx_zsw (of_decide_eq_true (List.all_eq_true.mp hall x hx)))
theorem sx_kn (hts : ∀ w ∈ lw_tbl, w.before #[Value.ref b] s = true) : ∃ D, va_K D sx_classes [] s := by
  have h1 : ∀ c : Nat, ∃ z : ClassId × (Nat → Nat), ∀ q, sx_classes[c]? = some q → u_Kn s q.1 q.2.1 q.2.2 z.1 z.2 := by
    intro c
    cases hc : sx_classes[c]? with
    | none => exact ⟨(0, fun _ => 0), fun q hq => by cases hq⟩
    | some q =>
      obtain ⟨h1, -, h3, -⟩ := sx_cls_in hc
      obtain ⟨cC, iS, h⟩ := u_known (ws := lw_tbl) (args := #[Value.ref b]) hts (fun w hw => (sx_wl_in (h1 w hw)).1) (hts _ (sx_wl_in h3).1)
      exact ⟨(cC, iS), fun q' hq => by cases hq; exact h⟩
  obtain ⟨f, hf⟩ := Classical.axiomOfChoice h1
  exact ⟨(fun c => (f c).1, fun c => (f c).2), fun c q hq => hf c q hq, fun k q hq => by simp at hq⟩
theorem sx_Tb_start (hts : ∀ w ∈ lw_tbl, w.before #[Value.ref b] s = true) (hgv : (Jvm.Cond.and given_1 narrow_1).before #[Value.ref b] s = true) : ∃ D K, sx_Tb D K s := by
  obtain ⟨D, hD⟩ := sx_kn hts
  have hsw : ∀ w ∈ sx_sw, w.before #[Value.ref b] s = true := fun w hw => hts w (sx_zsw hw)
  have hfl := flat_of_before _ hgv
  refine ⟨D, fun cA ty => ArrOfT s cA ty ∧ va_RA s cA ty, fun a w hw => word_at (args := #[Value.ref b]) (State.WarmedH.refl s) (good_of_word (sx_wl_in hw).2) (hts w (sx_wl_in hw).1), fun q hq => va_Nw.of rfl (hts _ (sx_pm_ok sx_z33 _ (List.mem_map.mpr ⟨q, hq, rfl⟩))), ⟨fun q hq => ?_, fun x hx => va_Nw.of rfl (sx_cself hts x hx), va_Nw.of rfl (hsw _ (by decide +kernel)), va_Nw.of rfl (hsw _ (by decide +kernel)), va_Nw.of rfl (hsw _ (by decide +kernel))⟩, fun x hx y hy => ?_, va_AO.of (hsw _ (by decide +kernel)), hD, fun _ _ => Iff.rfl⟩
  · have h0 := hts _ (sx_pm_ok sx_z77b _ (List.mem_map.mpr ⟨q, hq, rfl⟩))
    have h1 : (Cond.stringRef q.1 q.2.1 q.2.2).before #[] s = true := h0
    cases hc : s.vm.findClass q.1 with
    | none => simp [Cond.before, Cond.holds, Cond.value, hc] at h1
    | some cur =>
      obtain ⟨k, cf, i, a, -, -, -, -, -, hev⟩ := Cond.stringRef_spec hc h1
      exact ⟨a, vk_R.of h1 hev⟩
  · obtain ⟨cx, cx', q1, q1', q2⟩ := Cond.castable_spec (sx_cself hts x hx)
    obtain ⟨cy, cy', q3, q3', q4⟩ := Cond.castable_spec (sx_cself hts y hy)
    refine ⟨cx, cy, q1, q3, ?_⟩
    by_cases hxy : x = y
    · subst hxy
      cases q1.symm.trans q1'
      cases q1.symm.trans q3
      exact ⟨fun _ => rfl, fun _ => q2⟩
    · have hn := List.all_eq_true.mp (List.all_eq_true.mp sx_ncast x hx) y hy
      rw [Bool.or_eq_true, decide_eq_true_eq, decide_eq_true_eq] at hn
      have hn := hfl _ (hn.resolve_left hxy)
      refine ⟨fun h => ?_, fun h => absurd h hxy⟩
      exfalso
      simp [Cond.before, Cond.holds, Cond.value, q1, q3, h] at hn
theorem sx_Sx_start (hts : ∀ w ∈ lw_tbl, w.before #[Value.ref b] s = true) (hgv : (Jvm.Cond.and given_1 narrow_1).before #[Value.ref b] s = true) : ∃ bb : Nat → Nat, bb 0 = b ∧ sx_Sx bb (fun q => s.heap.size ≤ q) s s.heap := by
  have hfl := flat_of_before _ hgv
  have one : ∀ n d, Cond.laysStatic Bundle.tN n d ∈ sx_sw → (Cond.isRef (.static Bundle.tN n d)).before #[Value.ref b] s = true → sx_Z1 n d (fun q => s.heap.size ≤ q) s s.heap := by
    intro n d hw hr
    obtain ⟨c, k, i, f, a, cell, hc, hi, hst, hsa, hcell, hss, hcls, hlt, hty⟩ := Cond.laysStatic_spec (hts _ (sx_zsw hw))
    obtain ⟨v, hv, hvr⟩ := Cond.isRef_spec hr
    have hsl : cell.slots[f.slot]? = some cell.slots[f.slot] := Array.getElem?_eq_getElem hlt
    have hev := Term.static_eval (args := #[Value.ref b]) (first := s) (o := none) (idx := []) hi hst hsa hcell hss hsl
    cases hv.symm.trans hev
    exact ⟨c, k, i, f, a, cell, ⟨_, hvr⟩, hc, hi, hst, hsa, hcell, hss, hcls, hlt, hty, hsl, fun h => by have := (Array.getElem?_eq_some_iff.mp hcell).1; exact absurd this (Nat.not_lt.mpr h)⟩
  obtain ⟨bb, e0, hK⟩ := sx_Kx_start hts hgv
  exact ⟨bb, e0, one _ _ (by decide +kernel) (hfl _ sx_nst.1), one _ _ (by decide +kernel) (hfl _ sx_nst.2), hK⟩
end SXStart
