/-! sx: the rows of the statement that the tables name -/
def sx_isW (w : Cond) : Bool := goodWord w && decide (w ∈ lw_tbl)
theorem sx_isW_ok {w : Cond} (h : sx_isW w = true) : w ∈ sx_wl := by
  unfold sx_isW at h
  rw [Bool.and_eq_true, decide_eq_true_eq] at h
  exact List.mem_filter.mpr ⟨h.2, h.1⟩
def sx_ps : List Cond → List Nat → List Cond → Bool
  | _, [], [] => true
  | l, g :: gs, w :: ws => match l.drop g with
    | a :: l' => decide (a = w) && (goodWord w && sx_ps l' gs ws)
    | [] => false
  | _, _, _ => false
theorem sx_ps_ok : ∀ {gs : List Nat} {ws l : List Cond}, sx_ps l gs ws = true → ∀ w ∈ ws, w ∈ l ∧ goodWord w = true
  | [], [], l, _, w, hw => by cases hw
  | [], _ :: _, l, h, _, _ => by simp [sx_ps] at h
  | _ :: _, [], l, h, _, _ => by simp [sx_ps] at h
  | g :: gs, w :: ws, l, h, v, hv => by
    unfold sx_ps at h
    cases hd : l.drop g with
    | nil => rw [hd] at h; cases h
    | cons a l' =>
      rw [hd] at h
      simp only [Bool.and_eq_true, decide_eq_true_eq] at h
      obtain ⟨rfl, h1, h2⟩ := h
      have hsub : ∀ x ∈ a :: l', x ∈ l := fun x hx => List.mem_of_mem_drop (hd ▸ hx)
      rcases List.mem_cons.mp hv with rfl | hv
      · exact ⟨hsub _ List.mem_cons_self, h1⟩
      · obtain ⟨q1, q2⟩ := sx_ps_ok h2 v hv
        exact ⟨hsub _ (List.mem_cons_of_mem _ q1), q2⟩
theorem sx_ps_in {gs : List Nat} {ws : List Cond} (h : sx_ps lw_tbl gs ws = true) {w : Cond} (hw : w ∈ ws) : w ∈ sx_wl := List.mem_filter.mpr (sx_ps_ok h w hw)
def sx_nam (mi : Nat) : MethodName := match sx_ms[mi]? with
  | some q => q.1
  | none => ⟨"", "", ""⟩
theorem sx_nam_eq {mi : Nat} {q : sx_M} (h : sx_ms[mi]? = some q) : sx_nam mi = q.1 := by unfold sx_nam; rw [h]
theorem sx_z11 : sx_ps lw_tbl sx_flg (sx_fl.map (fun t => .fieldLink t.1 t.2.1 t.2.2.1 t.2.2.2.1 t.2.2.2.2)) = true := by decide +kernel
theorem sx_z1b : sx_ps lw_tbl sx_fxg (sx_fx.map (fun t => .fieldLink t.1 t.2.1 t.2.2.1 t.2.2.2.1 t.2.2.2.2)) = true := by decide +kernel
theorem sx_fx_in {k : Nat} {t : String × Nat × String × String × String} (h : sx_fx[k]? = some t) : Cond.fieldLink t.1 t.2.1 t.2.2.1 t.2.2.2.1 t.2.2.2.2 ∈ sx_wl := sx_ps_in sx_z1b (List.mem_map.mpr ⟨t, List.mem_of_getElem? h, rfl⟩)
theorem sx_z22 : sx_ps lw_tbl sx_mlg (sx_ml.map (fun t => .methodLink t.1 t.2.1 t.2.2)) = true := by decide +kernel
theorem sx_z44 : sx_ps lw_tbl sx_clg (sx_cl.map (fun t => .classLink t.1 t.2.1 t.2.2)) = true := by decide +kernel
theorem sx_z55 : sx_ps lw_tbl sx_cng (sx_cn.map (fun t => .constant t.1 t.2.1 t.2.2)) = true := by decide +kernel
theorem sx_z66 : sx_ps lw_tbl sx_cgg (sx_cg.map (fun t => .constantLong t.1 t.2.1 t.2.2)) = true := by decide +kernel
theorem sx_z77 : sx_ps lw_tbl sx_slg (sx_sl.map (fun t => .selects t.1 t.2.1 t.2.2)) = true := by decide +kernel
theorem sx_z88 : sx_ps lw_tbl sx_img (sx_iml.map (fun t => .instanceMethod t)) = true := by decide +kernel
theorem sx_z99 : sx_ps lw_tbl sx_smg (sx_sml.map (fun t => .sameMethod t.1 t.2.1 t.2.2.1 t.2.2.2)) = true := by decide +kernel
theorem sx_z1010 : sx_ps lw_tbl sx_stg (sx_stl.map (fun mi => .static (sx_nam mi))) = true := by decide +kernel
theorem sx_z1111 : sx_ps lw_tbl sx_izg (sx_izl.map (fun t => .initialized t)) = true := by decide +kernel
theorem sx_fl_in {k : Nat} {t : String × Nat × String × String × String} (h : sx_fl[k]? = some t) : Cond.fieldLink t.1 t.2.1 t.2.2.1 t.2.2.2.1 t.2.2.2.2 ∈ sx_wl := sx_ps_in sx_z11 (List.mem_map.mpr ⟨t, List.mem_of_getElem? h, rfl⟩)
theorem sx_ml_in {k : Nat} {t : String × Nat × MethodName} (h : sx_ml[k]? = some t) : Cond.methodLink t.1 t.2.1 t.2.2 ∈ sx_wl := sx_ps_in sx_z22 (List.mem_map.mpr ⟨t, List.mem_of_getElem? h, rfl⟩)
theorem sx_cl_in {k : Nat} {t : String × Nat × String} (h : sx_cl[k]? = some t) : Cond.classLink t.1 t.2.1 t.2.2 ∈ sx_wl := sx_ps_in sx_z44 (List.mem_map.mpr ⟨t, List.mem_of_getElem? h, rfl⟩)
theorem sx_cn_in {k : Nat} {t : String × Nat × Int32} (h : sx_cn[k]? = some t) : Cond.constant t.1 t.2.1 t.2.2 ∈ sx_wl := sx_ps_in sx_z55 (List.mem_map.mpr ⟨t, List.mem_of_getElem? h, rfl⟩)
theorem sx_cg_in {k : Nat} {t : String × Nat × Int64} (h : sx_cg[k]? = some t) : Cond.constantLong t.1 t.2.1 t.2.2 ∈ sx_wl := sx_ps_in sx_z66 (List.mem_map.mpr ⟨t, List.mem_of_getElem? h, rfl⟩)
theorem sx_sl_in {k : Nat} {t : String × MethodName × MethodName} (h : sx_sl[k]? = some t) : Cond.selects t.1 t.2.1 t.2.2 ∈ sx_wl := sx_ps_in sx_z77 (List.mem_map.mpr ⟨t, List.mem_of_getElem? h, rfl⟩)
theorem sx_iml_in {k : Nat} {t : MethodName} (h : sx_iml[k]? = some t) : Cond.instanceMethod t ∈ sx_wl := sx_ps_in sx_z88 (List.mem_map.mpr ⟨t, List.mem_of_getElem? h, rfl⟩)
theorem sx_sml_in {k : Nat} {t : String × String × String × String} (h : sx_sml[k]? = some t) : Cond.sameMethod t.1 t.2.1 t.2.2.1 t.2.2.2 ∈ sx_wl := sx_ps_in sx_z99 (List.mem_map.mpr ⟨t, List.mem_of_getElem? h, rfl⟩)
theorem sx_izl_in {t : String} (h : t ∈ sx_izl) : Cond.initialized t ∈ sx_wl := sx_ps_in sx_z1111 (List.mem_map.mpr ⟨t, h, rfl⟩)
/-! classes -/
def sx_fty (d : String) : FieldType := (parseFieldDescriptor d).getD .int
def sx_rC (C : vw_C) : Bool := (List.range C.2.2).all (fun k => sx_isW (u_lay C.1 C.2.1 k) && decide (parseFieldDescriptor (C.2.1 k).2.2.1 = some (sx_fty (C.2.1 k).2.2.1))) && (sx_isW (.instantiable C.1 C.2.2) && (sx_isW (.initialized C.1) && (List.range C.2.2).all (fun a => (List.range C.2.2).all (fun b => decide (a = b) || decide ((C.2.1 a).2.1 ≠ (C.2.1 b).2.1)))))
def sf_tag (w : Cond) : Nat := match w with
  | .lays .. => 1
  | .laysFinal .. => 2
  | .instantiable .. => 3
  | .initialized .. => 4
  | .fieldLink .. => 5
  | .selects .. => 6
  | .instanceMethod .. => 7
  | .isRef .. => 8
  | .methodLink .. => 9
  | .code .. => 10
  | _ => 0
noncomputable def sf_el (w : Cond) (l : List Cond) : Bool := List.rec false (fun a _ ih => cond (cond (Nat.beq (sf_tag a) (sf_tag w)) (decide (a = w)) false) true ih) l
theorem sf_el_ok {w : Cond} : ∀ {l : List Cond}, sf_el w l = true → w ∈ l
  | [], h => by cases h
  | a :: l, h => by
    have h : cond (cond (Nat.beq (sf_tag a) (sf_tag w)) (decide (a = w)) false) true (sf_el w l) = true := h
    cases q : Nat.beq (sf_tag a) (sf_tag w) with
    | false =>
      rw [q] at h
      exact List.mem_cons_of_mem _ (sf_el_ok h)
    | true =>
      rw [q] at h
      by_cases e : a = w
      · rw [← e]; exact List.mem_cons_self
      · rw [show cond true (decide (a = w)) false = false from decide_eq_false e] at h
        exact List.mem_cons_of_mem _ (sf_el_ok h)
noncomputable def sf_isW (w : Cond) : Bool := goodWord w && sf_el w lw_tbl
theorem sf_isW_ok {w : Cond} (h : sf_isW w = true) : sx_isW w = true := by
  unfold sf_isW at h
  unfold sx_isW
  rw [Bool.and_eq_true] at h ⊢
  exact ⟨h.1, decide_eq_true (sf_el_ok h.2)⟩
noncomputable def sf_rC (C : vw_C) : Bool := (List.range C.2.2).all (fun k => sf_isW (u_lay C.1 C.2.1 k) && decide (parseFieldDescriptor (C.2.1 k).2.2.1 = some (sx_fty (C.2.1 k).2.2.1))) && (sf_isW (.instantiable C.1 C.2.2) && (sf_isW (.initialized C.1) && (List.range C.2.2).all (fun a => (List.range C.2.2).all (fun b => decide (a = b) || decide ((C.2.1 a).2.1 ≠ (C.2.1 b).2.1)))))
theorem sf_rC_ok {C : vw_C} (h : sf_rC C = true) : sx_rC C = true := by
  unfold sf_rC at h
  unfold sx_rC
  rw [Bool.and_eq_true, Bool.and_eq_true, Bool.and_eq_true] at h ⊢
  obtain ⟨h1, h2, h3, h4⟩ := h
  refine ⟨List.all_eq_true.mpr fun k hk => ?_, sf_isW_ok h2, sf_isW_ok h3, h4⟩
  have q := List.all_eq_true.mp h1 k hk
  rw [Bool.and_eq_true] at q ⊢
  exact ⟨sf_isW_ok q.1, q.2⟩
theorem sx_rC_ok : sx_classes.all sx_rC = true := List.all_eq_true.mpr fun C hC => sf_rC_ok (List.all_eq_true.mp (show sx_classes.all sf_rC = true by decide +kernel) C hC)
theorem sx_cls_in {ci : Nat} {C : vw_C} (h : sx_classes[ci]? = some C) : (∀ w ∈ u_ws C.1 C.2.1 C.2.2, w ∈ sx_wl) ∧ (∀ k, k < C.2.2 → parseFieldDescriptor (C.2.1 k).2.2.1 = some (sx_fty (C.2.1 k).2.2.1)) ∧ Cond.instantiable C.1 C.2.2 ∈ sx_wl ∧ Cond.initialized C.1 ∈ sx_wl ∧ (∀ a, a < C.2.2 → ∀ b, b < C.2.2 → a ≠ b → (C.2.1 a).2.1 ≠ (C.2.1 b).2.1) := by
  have h1 := List.all_eq_true.mp sx_rC_ok C (List.mem_of_getElem? h)
  unfold sx_rC at h1
  simp only [Bool.and_eq_true] at h1
  obtain ⟨h1, h2, h3, h4⟩ := h1
  refine ⟨fun w hw => ?_, fun k hk => ?_, sx_isW_ok h2, sx_isW_ok h3, fun a ha b' hb hab => ?_⟩
  · obtain ⟨k, hk, rfl⟩ := List.mem_map.mp hw
    have := List.all_eq_true.mp h1 k hk
    rw [Bool.and_eq_true] at this
    exact sx_isW_ok this.1
  · have := List.all_eq_true.mp h1 k (List.mem_range.mpr hk)
    rw [Bool.and_eq_true, decide_eq_true_eq] at this
    exact this.2
  · have := List.all_eq_true.mp (List.all_eq_true.mp h4 a (List.mem_range.mpr ha)) b' (List.mem_range.mpr hb)
    rw [Bool.or_eq_true, decide_eq_true_eq, decide_eq_true_eq] at this
    exact this.resolve_left hab
def sx_sames : List (String × String × String × String) := [("AbsentRings$HouseText", "AbsentRings$Text", "tape", "LAbsentRings$Tape;"), ("AbsentRings$HouseText", "AbsentRings$Text", "wrong", "I"), ("AbsentRings$LawText", "AbsentRings$Text", "wrong", "I"), ("AbsentRings$HouseText", "AbsentRings$Text", "from", "I"), ("AbsentRings$LawText", "AbsentRings$Text", "from", "I")]
theorem sx_sames_ok : sx_sames.all (fun t => sx_isW (.sameField t.1 t.2.1 t.2.2.1 t.2.2.2)) = true := by decide +kernel
/-- a field of a class by a link's name: its place, and its kind (0 int, 1 boolean, 2 a reference) -/
def sx_rF (ci k : Nat) : Bool := let j := sx_slot ci k
  if j = 0 then true else sx_oa (sx_fl[k]?) (fun t => sx_oa (sx_classes[ci]?) (fun C => let f := C.2.1 (j % 32 - 1)
    decide (0 < j % 32) && (decide (j % 32 - 1 < C.2.2) && (decide (f.2.1 = t.2.2.2.1) && (decide (f.2.2.1 = t.2.2.2.2) && ((decide (t.2.2.1 = f.1) || sx_sames.contains (t.2.2.1, f.1, t.2.2.2.1, t.2.2.2.2)) &&
      (if j / 32 = 0 then decide (f.2.2.1 = "I") else if j / 32 = 1 then decide (f.2.2.1 = "Z") else (match sx_fty f.2.2.1 with | .object _ => true | .array _ => true | _ => false))))))))
theorem sx_rF_ok : (List.range 12).all (fun ci => (List.range 170).all (fun k => sx_rF ci k)) = true := by decide +kernel
theorem sx_big_ok : decide (sx_fields < 2 ^ (8 * (11 * 256 + 170))) = true := by decide +kernel
theorem sx_fl_len : sx_fl.length = 170 ∧ sx_classes.length = 12 := by decide +kernel
def sx_rD (ci : Nat) : Bool := sx_oa (sx_classes[ci]?) (fun C => sx_oa (sx_cls[ci]?) (fun t => decide (t.1 = ci + 256 * C.2.2) && (decide (ci < 100) && (List.range C.2.2).all (fun j => match defaultValue (sx_fty (C.2.1 j).2.2.1) with
  | .int z => decide (z = 0) && decide (sx_get t.2 j = 0)
  | .null => decide (sx_get t.2 j = 3)
  | _ => false))))
theorem sx_rD_ok : (List.range 12).all sx_rD = true := by decide +kernel
