-- printed by wip/whole/gen_m.py out of the claim: classes, fields, methods by number
/-- the words but those of private methods -/
def zpriv (w : Cond) : Bool := match w with
  | .privateMethod _ => true
  | _ => false
def zlw : List Cond := lw_tbl.filter (fun w => !zpriv w)
theorem zmm {w : Cond} {k : Nat} (h : lw_tbl[k]? = some w) (hp : (!zpriv w) = true) : w ∈ zlw := List.mem_filter.mpr ⟨List.mem_of_getElem? h, hp⟩
def R_La : String := "SpatialTablesLaw"
def R_ST : String := "SpatialTables"
def R_Fr : String := "SpatialTables$Frames"
def R_Ar : String := "java/util/Arrays"
def R_Dr : String := "SpatialTables$Draft"
def R_Di : String := "SpatialTables$Distance"
def R_Ta : String := "SpatialTables$Table"
def R_In : String := "SpatialTables$Index"
def R_Mo : String := "SpatialTablesModel"
def R_Ge : String := "SpatialTables$Geometry"
def R_Ma : String := "java/lang/Math"
def R_Sy : String := "java/lang/System"
def R_Bo : String := "SpatialTables$Bound"
def R_Ig : String := "java/lang/Integer"
def R_Ob : String := "java/lang/Object"
def R_AI : String := "[I"
def T_ST : u_T := fun k => match k with
  | 0 => ("SpatialTables", "present", "[LSpatialTables$Table;", true)
  | 1 => ("SpatialTables", "committed", "[LSpatialTables$Table;", true)
  | 2 => ("SpatialTables", "indexes", "[LSpatialTables$Index;", true)
  | 3 => ("SpatialTables", "frames", "LSpatialTables$Frames;", true)
  | 4 => ("SpatialTables", "draft", "LSpatialTables$Draft;", true)
  | 5 => ("SpatialTables", "focus", "LSpatialTables$Geometry;", false)
  | 6 => ("SpatialTables", "answers", "[I", true)
  | 7 => ("SpatialTables", "answerCount", "I", false)
  | 8 => ("SpatialTables", "readCount", "I", false)
  | 9 => ("SpatialTables", "measured", "LSpatialTables$Distance;", true)
  | 10 => ("SpatialTables", "reach", "LSpatialTables$Distance;", true)
  | 11 => ("SpatialTables", "distances", "[LSpatialTables$Distance;", true)
  | _ => ("SpatialTables", "order", "[I", true)
def ty_ST : Nat → FieldType := fun k => match k with
  | 0 => .array (.object "SpatialTables$Table")
  | 1 => .array (.object "SpatialTables$Table")
  | 2 => .array (.object "SpatialTables$Index")
  | 3 => .object "SpatialTables$Frames"
  | 4 => .object "SpatialTables$Draft"
  | 5 => .object "SpatialTables$Geometry"
  | 6 => .array .int
  | 7 => .int
  | 8 => .int
  | 9 => .object "SpatialTables$Distance"
  | 10 => .object "SpatialTables$Distance"
  | 11 => .array (.object "SpatialTables$Distance")
  | _ => .array .int
def df_ST : List Value := [.null, .null, .null, .null, .null, .null, .null, .int 0, .int 0, .null, .null, .null, .null]
theorem nm_ST : ∀ a, a < 13 → ∀ b, b < 13 → a ≠ b → (T_ST a).2.1 ≠ (T_ST b).2.1 := by decide +kernel
theorem tk_ST : ∀ k, k < 13 → parseFieldDescriptor (T_ST k).2.2.1 = some (ty_ST k) := by decide +kernel
theorem in_ST : ∀ w ∈ u_ws R_ST T_ST 13, w ∈ zlw := by decide +kernel
theorem dv_ST : ∀ j, j < 13 → defaultValue (ty_ST j) = vp_V df_ST j := by decide +kernel
theorem iw_ST : Cond.instantiable R_ST 13 ∈ zlw ∧ Cond.initialized R_ST ∈ zlw := ⟨zmm (k := 73) (by decide +kernel) rfl, zmm (k := 59) (by decide +kernel) rfl⟩
def T_Fr : u_T := fun k => match k with
  | _ => ("SpatialTables$Frames", "places", "[I", true)
def ty_Fr : Nat → FieldType := fun k => match k with
  | _ => .array .int
def df_Fr : List Value := [.null]
theorem nm_Fr : ∀ a, a < 1 → ∀ b, b < 1 → a ≠ b → (T_Fr a).2.1 ≠ (T_Fr b).2.1 := by decide +kernel
theorem tk_Fr : ∀ k, k < 1 → parseFieldDescriptor (T_Fr k).2.2.1 = some (ty_Fr k) := by decide +kernel
theorem in_Fr : ∀ w ∈ u_ws R_Fr T_Fr 1, w ∈ zlw := by decide +kernel
theorem dv_Fr : ∀ j, j < 1 → defaultValue (ty_Fr j) = vp_V df_Fr j := by decide +kernel
theorem iw_Fr : Cond.instantiable R_Fr 1 ∈ zlw ∧ Cond.initialized R_Fr ∈ zlw := ⟨zmm (k := 85) (by decide +kernel) rfl, zmm (k := 60) (by decide +kernel) rfl⟩
def T_Dr : u_T := fun k => match k with
  | 0 => ("SpatialTables$Draft", "xs", "[I", true)
  | 1 => ("SpatialTables$Draft", "ys", "[I", true)
  | _ => ("SpatialTables$Draft", "size", "I", false)
def ty_Dr : Nat → FieldType := fun k => match k with
  | 0 => .array .int
  | 1 => .array .int
  | _ => .int
def df_Dr : List Value := [.null, .null, .int 0]
theorem nm_Dr : ∀ a, a < 3 → ∀ b, b < 3 → a ≠ b → (T_Dr a).2.1 ≠ (T_Dr b).2.1 := by decide +kernel
theorem tk_Dr : ∀ k, k < 3 → parseFieldDescriptor (T_Dr k).2.2.1 = some (ty_Dr k) := by decide +kernel
theorem in_Dr : ∀ w ∈ u_ws R_Dr T_Dr 3, w ∈ zlw := by decide +kernel
theorem dv_Dr : ∀ j, j < 3 → defaultValue (ty_Dr j) = vp_V df_Dr j := by decide +kernel
theorem iw_Dr : Cond.instantiable R_Dr 3 ∈ zlw ∧ Cond.initialized R_Dr ∈ zlw := ⟨zmm (k := 99) (by decide +kernel) rfl, zmm (k := 62) (by decide +kernel) rfl⟩
def T_Di : u_T := fun k => match k with
  | 0 => ("SpatialTables$Distance", "top", "J", false)
  | _ => ("SpatialTables$Distance", "bottom", "J", false)
def ty_Di : Nat → FieldType := fun k => match k with
  | 0 => .long
  | _ => .long
def df_Di : List Value := [.long 0, .long 0]
theorem nm_Di : ∀ a, a < 2 → ∀ b, b < 2 → a ≠ b → (T_Di a).2.1 ≠ (T_Di b).2.1 := by decide +kernel
theorem tk_Di : ∀ k, k < 2 → parseFieldDescriptor (T_Di k).2.2.1 = some (ty_Di k) := by decide +kernel
theorem in_Di : ∀ w ∈ u_ws R_Di T_Di 2, w ∈ zlw := by decide +kernel
theorem dv_Di : ∀ j, j < 2 → defaultValue (ty_Di j) = vp_V df_Di j := by decide +kernel
theorem iw_Di : Cond.instantiable R_Di 2 ∈ zlw ∧ Cond.initialized R_Di ∈ zlw := ⟨zmm (k := 115) (by decide +kernel) rfl, zmm (k := 63) (by decide +kernel) rfl⟩
def T_Ta : u_T := fun k => match k with
  | 0 => ("SpatialTables$Table", "amounts", "[I", true)
  | _ => ("SpatialTables$Table", "places", "[LSpatialTables$Geometry;", true)
def ty_Ta : Nat → FieldType := fun k => match k with
  | 0 => .array .int
  | _ => .array (.object "SpatialTables$Geometry")
def df_Ta : List Value := [.null, .null]
theorem nm_Ta : ∀ a, a < 2 → ∀ b, b < 2 → a ≠ b → (T_Ta a).2.1 ≠ (T_Ta b).2.1 := by decide +kernel
theorem tk_Ta : ∀ k, k < 2 → parseFieldDescriptor (T_Ta k).2.2.1 = some (ty_Ta k) := by decide +kernel
theorem in_Ta : ∀ w ∈ u_ws R_Ta T_Ta 2, w ∈ zlw := by decide +kernel
theorem dv_Ta : ∀ j, j < 2 → defaultValue (ty_Ta j) = vp_V df_Ta j := by decide +kernel
theorem iw_Ta : Cond.instantiable R_Ta 2 ∈ zlw ∧ Cond.initialized R_Ta ∈ zlw := ⟨zmm (k := 128) (by decide +kernel) rfl, zmm (k := 64) (by decide +kernel) rfl⟩
def T_In : u_T := fun k => match k with
  | 0 => ("SpatialTables$Index", "parts", "[I", true)
  | 1 => ("SpatialTables$Index", "x0", "[I", true)
  | 2 => ("SpatialTables$Index", "y0", "[I", true)
  | 3 => ("SpatialTables$Index", "x1", "[I", true)
  | 4 => ("SpatialTables$Index", "y1", "[I", true)
  | _ => ("SpatialTables$Index", "size", "I", false)
def ty_In : Nat → FieldType := fun k => match k with
  | 0 => .array .int
  | 1 => .array .int
  | 2 => .array .int
  | 3 => .array .int
  | 4 => .array .int
  | _ => .int
def df_In : List Value := [.null, .null, .null, .null, .null, .int 0]
theorem nm_In : ∀ a, a < 6 → ∀ b, b < 6 → a ≠ b → (T_In a).2.1 ≠ (T_In b).2.1 := by decide +kernel
theorem tk_In : ∀ k, k < 6 → parseFieldDescriptor (T_In k).2.2.1 = some (ty_In k) := by decide +kernel
theorem in_In : ∀ w ∈ u_ws R_In T_In 6, w ∈ zlw := by decide +kernel
theorem dv_In : ∀ j, j < 6 → defaultValue (ty_In j) = vp_V df_In j := by decide +kernel
theorem iw_In : Cond.instantiable R_In 6 ∈ zlw ∧ Cond.initialized R_In ∈ zlw := ⟨zmm (k := 142) (by decide +kernel) rfl, zmm (k := 65) (by decide +kernel) rfl⟩
def T_Ge : u_T := fun k => match k with
  | 0 => ("SpatialTables$Geometry", "kind", "I", true)
  | 1 => ("SpatialTables$Geometry", "xs", "[I", true)
  | 2 => ("SpatialTables$Geometry", "ys", "[I", true)
  | _ => ("SpatialTables$Geometry", "bound", "LSpatialTables$Bound;", true)
def ty_Ge : Nat → FieldType := fun k => match k with
  | 0 => .int
  | 1 => .array .int
  | 2 => .array .int
  | _ => .object "SpatialTables$Bound"
def df_Ge : List Value := [.int 0, .null, .null, .null]
theorem nm_Ge : ∀ a, a < 4 → ∀ b, b < 4 → a ≠ b → (T_Ge a).2.1 ≠ (T_Ge b).2.1 := by decide +kernel
theorem tk_Ge : ∀ k, k < 4 → parseFieldDescriptor (T_Ge k).2.2.1 = some (ty_Ge k) := by decide +kernel
theorem in_Ge : ∀ w ∈ u_ws R_Ge T_Ge 4, w ∈ zlw := by decide +kernel
theorem dv_Ge : ∀ j, j < 4 → defaultValue (ty_Ge j) = vp_V df_Ge j := by decide +kernel
theorem iw_Ge : Cond.instantiable R_Ge 4 ∈ zlw ∧ Cond.initialized R_Ge ∈ zlw := ⟨zmm (k := 234) (by decide +kernel) rfl, zmm (k := 67) (by decide +kernel) rfl⟩
def T_Bo : u_T := fun k => match k with
  | 0 => ("SpatialTables$Bound", "x0", "I", true)
  | 1 => ("SpatialTables$Bound", "y0", "I", true)
  | 2 => ("SpatialTables$Bound", "x1", "I", true)
  | _ => ("SpatialTables$Bound", "y1", "I", true)
def ty_Bo : Nat → FieldType := fun k => match k with
  | 0 => .int
  | 1 => .int
  | 2 => .int
  | _ => .int
def df_Bo : List Value := [.int 0, .int 0, .int 0, .int 0]
theorem nm_Bo : ∀ a, a < 4 → ∀ b, b < 4 → a ≠ b → (T_Bo a).2.1 ≠ (T_Bo b).2.1 := by decide +kernel
theorem tk_Bo : ∀ k, k < 4 → parseFieldDescriptor (T_Bo k).2.2.1 = some (ty_Bo k) := by decide +kernel
theorem in_Bo : ∀ w ∈ u_ws R_Bo T_Bo 4, w ∈ zlw := by decide +kernel
theorem dv_Bo : ∀ j, j < 4 → defaultValue (ty_Bo j) = vp_V df_Bo j := by decide +kernel
theorem iw_Bo : Cond.instantiable R_Bo 4 ∈ zlw ∧ Cond.initialized R_Bo ∈ zlw := ⟨zmm (k := 256) (by decide +kernel) rfl, zmm (k := 70) (by decide +kernel) rfl⟩
def T_Mo : u_T := fun k => match k with
  | 0 => ("SpatialTablesModel", "there", "[Z", true)
  | 1 => ("SpatialTablesModel", "worth", "[I", true)
  | 2 => ("SpatialTablesModel", "sort", "[I", true)
  | 3 => ("SpatialTablesModel", "many", "[I", true)
  | 4 => ("SpatialTablesModel", "xs", "[I", true)
  | 5 => ("SpatialTablesModel", "ys", "[I", true)
  | 6 => ("SpatialTablesModel", "left", "[I", true)
  | 7 => ("SpatialTablesModel", "right", "[I", true)
  | 8 => ("SpatialTablesModel", "low", "[I", true)
  | 9 => ("SpatialTablesModel", "high", "[I", true)
  | 10 => ("SpatialTablesModel", "drafted", "I", false)
  | 11 => ("SpatialTablesModel", "draftX", "[I", true)
  | 12 => ("SpatialTablesModel", "draftY", "[I", true)
  | 13 => ("SpatialTablesModel", "top", "J", false)
  | 14 => ("SpatialTablesModel", "under", "J", false)
  | 15 => ("SpatialTablesModel", "tops", "[J", true)
  | 16 => ("SpatialTablesModel", "unders", "[J", true)
  | 17 => ("SpatialTablesModel", "x0", "I", false)
  | 18 => ("SpatialTablesModel", "x1", "I", false)
  | 19 => ("SpatialTablesModel", "y0", "I", false)
  | 20 => ("SpatialTablesModel", "y1", "I", false)
  | 21 => ("SpatialTablesModel", "results", "I", false)
  | 22 => ("SpatialTablesModel", "reading", "I", false)
  | 23 => ("SpatialTablesModel", "found", "[I", true)
  | 24 => ("SpatialTablesModel", "place", "[I", true)
  | _ => ("SpatialTablesModel", "fresh", "[I", true)
def ty_Mo : Nat → FieldType := fun k => match k with
  | 0 => .array .boolean
  | 1 => .array .int
  | 2 => .array .int
  | 3 => .array .int
  | 4 => .array .int
  | 5 => .array .int
  | 6 => .array .int
  | 7 => .array .int
  | 8 => .array .int
  | 9 => .array .int
  | 10 => .int
  | 11 => .array .int
  | 12 => .array .int
  | 13 => .long
  | 14 => .long
  | 15 => .array .long
  | 16 => .array .long
  | 17 => .int
  | 18 => .int
  | 19 => .int
  | 20 => .int
  | 21 => .int
  | 22 => .int
  | 23 => .array .int
  | 24 => .array .int
  | _ => .array .int
def df_Mo : List Value := [.null, .null, .null, .null, .null, .null, .null, .null, .null, .null, .int 0, .null, .null, .long 0, .long 0, .null, .null, .int 0, .int 0, .int 0, .int 0, .int 0, .int 0, .null, .null, .null]
theorem nm_Mo : ∀ a, a < 26 → ∀ b, b < 26 → a ≠ b → (T_Mo a).2.1 ≠ (T_Mo b).2.1 := by decide +kernel
theorem tk_Mo : ∀ k, k < 26 → parseFieldDescriptor (T_Mo k).2.2.1 = some (ty_Mo k) := by decide +kernel
theorem in_Mo : ∀ w ∈ u_ws R_Mo T_Mo 26, w ∈ zlw := by decide +kernel
theorem dv_Mo : ∀ j, j < 26 → defaultValue (ty_Mo j) = vp_V df_Mo j := by decide +kernel
theorem iw_Mo : Cond.instantiable R_Mo 26 ∈ zlw ∧ Cond.initialized R_Mo ∈ zlw := ⟨zmm (k := 636) (by decide +kernel) rfl, zmm (k := 66) (by decide +kernel) rfl⟩
abbrev zcl : List vw_C := [(R_ST, T_ST, 13), (R_Fr, T_Fr, 1), (R_Dr, T_Dr, 3), (R_Di, T_Di, 2), (R_Ta, T_Ta, 2), (R_In, T_In, 6), (R_Ge, T_Ge, 4), (R_Bo, T_Bo, 4), (R_Mo, T_Mo, 26)]
def zty (a : Nat) : Nat → FieldType := match a with
  | 0 => ty_ST
  | 1 => ty_Fr
  | 2 => ty_Dr
  | 3 => ty_Di
  | 4 => ty_Ta
  | 5 => ty_In
  | 6 => ty_Ge
  | 7 => ty_Bo
  | 8 => ty_Mo
  | _ => fun _ => .int
def zdf (a : Nat) : List Value := match a with
  | 0 => df_ST
  | 1 => df_Fr
  | 2 => df_Dr
  | 3 => df_Di
  | 4 => df_Ta
  | 5 => df_In
  | 6 => df_Ge
  | 7 => df_Bo
  | 8 => df_Mo
  | _ => []
theorem zcl_ok (a : Nat) {C : vw_C} (h : zcl[a]? = some C) : (∀ w ∈ u_ws C.1 C.2.1 C.2.2, w ∈ zlw) ∧ (∀ k, k < C.2.2 → parseFieldDescriptor (C.2.1 k).2.2.1 = some (zty a k)) ∧ (∀ x, x < C.2.2 → ∀ y, y < C.2.2 → x ≠ y → (C.2.1 x).2.1 ≠ (C.2.1 y).2.1) ∧ Cond.instantiable C.1 C.2.2 ∈ zlw ∧ Cond.initialized C.1 ∈ zlw ∧ (zdf a).length = C.2.2 ∧ (∀ j, j < C.2.2 → defaultValue (zty a j) = vp_V (zdf a) j) := by
  match a, h with
  | 0, h => obtain rfl := Option.some.inj (h : some (R_ST, T_ST, 13) = some C); exact ⟨in_ST, tk_ST, nm_ST, iw_ST.1, iw_ST.2, rfl, dv_ST⟩
  | 1, h => obtain rfl := Option.some.inj (h : some (R_Fr, T_Fr, 1) = some C); exact ⟨in_Fr, tk_Fr, nm_Fr, iw_Fr.1, iw_Fr.2, rfl, dv_Fr⟩
  | 2, h => obtain rfl := Option.some.inj (h : some (R_Dr, T_Dr, 3) = some C); exact ⟨in_Dr, tk_Dr, nm_Dr, iw_Dr.1, iw_Dr.2, rfl, dv_Dr⟩
  | 3, h => obtain rfl := Option.some.inj (h : some (R_Di, T_Di, 2) = some C); exact ⟨in_Di, tk_Di, nm_Di, iw_Di.1, iw_Di.2, rfl, dv_Di⟩
  | 4, h => obtain rfl := Option.some.inj (h : some (R_Ta, T_Ta, 2) = some C); exact ⟨in_Ta, tk_Ta, nm_Ta, iw_Ta.1, iw_Ta.2, rfl, dv_Ta⟩
  | 5, h => obtain rfl := Option.some.inj (h : some (R_In, T_In, 6) = some C); exact ⟨in_In, tk_In, nm_In, iw_In.1, iw_In.2, rfl, dv_In⟩
  | 6, h => obtain rfl := Option.some.inj (h : some (R_Ge, T_Ge, 4) = some C); exact ⟨in_Ge, tk_Ge, nm_Ge, iw_Ge.1, iw_Ge.2, rfl, dv_Ge⟩
  | 7, h => obtain rfl := Option.some.inj (h : some (R_Bo, T_Bo, 4) = some C); exact ⟨in_Bo, tk_Bo, nm_Bo, iw_Bo.1, iw_Bo.2, rfl, dv_Bo⟩
  | 8, h => obtain rfl := Option.some.inj (h : some (R_Mo, T_Mo, 26) = some C); exact ⟨in_Mo, tk_Mo, nm_Mo, iw_Mo.1, iw_Mo.2, rfl, dv_Mo⟩
  | n + 9, h => exact absurd h (by simp [zcl])
def zNT : Nat := 7
def ztys (tc : Nat → ClassId) : List (ClassId × FieldType) := [(tc 0, .int), (tc 1, .boolean), (tc 2, .long), (tc 3, .object R_Ta), (tc 4, .object R_In), (tc 5, .object R_Di), (tc 6, .object R_Ge)]
def zte (t : Nat) : Option Nat := match t with
  | 3 => some 4
  | 4 => some 5
  | 5 => some 3
  | 6 => some 6
  | _ => none
theorem ao_Ta : Cond.arrayOver (.object R_Ta) ∈ zlw := zmm (k := 81) (by decide +kernel) rfl
theorem ao_In : Cond.arrayOver (.object R_In) ∈ zlw := zmm (k := 83) (by decide +kernel) rfl
theorem ao_Di : Cond.arrayOver (.object R_Di) ∈ zlw := zmm (k := 127) (by decide +kernel) rfl
theorem ao_Ge : Cond.arrayOver (.object R_Ge) ∈ zlw := zmm (k := 134) (by decide +kernel) rfl
theorem zw_aci : Cond.arrayClass (newarray.typeOf .int) ∈ zlw := zmm (k := 97) (by decide +kernel) rfl
theorem zw_acz : Cond.arrayClass (newarray.typeOf .boolean) ∈ zlw := zmm (k := 720) (by decide +kernel) rfl
theorem zw_acj : Cond.arrayClass (newarray.typeOf .long) ∈ zlw := zmm (k := 721) (by decide +kernel) rfl
theorem zte_ok {t c : Nat} (h : zte t = some c) : ∃ C, zcl[c]? = some C ∧ Cond.arrayOver (.object C.1) ∈ zlw ∧ ∀ tc, (ztys tc)[t]? = some (tc t, .object C.1) := by
  match t, h with
  | 0, h => exact absurd h (by simp [zte])
  | 1, h => exact absurd h (by simp [zte])
  | 2, h => exact absurd h (by simp [zte])
  | 3, h => obtain rfl := Option.some.inj (h : some 4 = some c); exact ⟨(R_Ta, T_Ta, 2), rfl, ao_Ta, fun _ => rfl⟩
  | 4, h => obtain rfl := Option.some.inj (h : some 5 = some c); exact ⟨(R_In, T_In, 6), rfl, ao_In, fun _ => rfl⟩
  | 5, h => obtain rfl := Option.some.inj (h : some 3 = some c); exact ⟨(R_Di, T_Di, 2), rfl, ao_Di, fun _ => rfl⟩
  | 6, h => obtain rfl := Option.some.inj (h : some 6 = some c); exact ⟨(R_Ge, T_Ge, 4), rfl, ao_Ge, fun _ => rfl⟩
  | n + 7, h => exact absurd h (by simp [zte])
theorem ztys_ok {t : Nat} (h : t < zNT) (tc : Nat → ClassId) : ∃ ty, (ztys tc)[t]? = some (tc t, ty) := by
  match t, h with
  | 0, _ => exact ⟨_, rfl⟩
  | 1, _ => exact ⟨_, rfl⟩
  | 2, _ => exact ⟨_, rfl⟩
  | 3, _ => exact ⟨_, rfl⟩
  | 4, _ => exact ⟨_, rfl⟩
  | 5, _ => exact ⟨_, rfl⟩
  | 6, _ => exact ⟨_, rfl⟩
  | n + 7, h => exact absurd h (by unfold zNT; omega)
def y_ST_init : MethodName := ⟨R_ST, "<init>", "()V"⟩
def y_Fr_init : MethodName := ⟨R_Fr, "<init>", "()V"⟩
def y_Ar_fill : MethodName := ⟨R_Ar, "fill", "([II)V"⟩
def y_Dr_init : MethodName := ⟨R_Dr, "<init>", "()V"⟩
def y_Di_init : MethodName := ⟨R_Di, "<init>", "()V"⟩
def y_Ta_init : MethodName := ⟨R_Ta, "<init>", "()V"⟩
def y_In_init : MethodName := ⟨R_In, "<init>", "()V"⟩
def y_ST_vertex : MethodName := ⟨R_ST, "vertex", "(II)I"⟩
def y_Dr_append : MethodName := ⟨R_Dr, "append", "(II)I"⟩
def y_Dr_isCoordinate : MethodName := ⟨R_Dr, "isCoordinate", "(I)Z"⟩
def y_ST_shape : MethodName := ⟨R_ST, "shape", "(I)I"⟩
def y_Dr_hasCountFor : MethodName := ⟨R_Dr, "hasCountFor", "(I)Z"⟩
def y_Dr_clear : MethodName := ⟨R_Dr, "clear", "()V"⟩
def y_Dr_drawn : MethodName := ⟨R_Dr, "drawn", "(I)LSpatialTables$Geometry;"⟩
def y_Ar_copyOf : MethodName := ⟨R_Ar, "copyOf", "([II)[I"⟩
def y_Ge_init : MethodName := ⟨R_Ge, "<init>", "(I[I[I)V"⟩
def y_Bo_init : MethodName := ⟨R_Bo, "<init>", "([I[I)V"⟩
def y_Ge_fault : MethodName := ⟨R_Ge, "fault", "()I"⟩
def y_Ge_hasEqualNeighbours : MethodName := ⟨R_Ge, "hasEqualNeighbours", "()Z"⟩
def y_Ge_sides : MethodName := ⟨R_Ge, "sides", "()I"⟩
def y_Ge_end : MethodName := ⟨R_Ge, "end", "(I)I"⟩
def y_Ge_touchesItself : MethodName := ⟨R_Ge, "touchesItself", "()Z"⟩
def y_Ge_mayNotMeetAsTheyDo : MethodName := ⟨R_Ge, "mayNotMeetAsTheyDo", "(II)Z"⟩
def y_Ge_foldsBack : MethodName := ⟨R_Ge, "foldsBack", "(II)Z"⟩
def y_Ge_sideMeets : MethodName := ⟨R_Ge, "sideMeets", "(ILSpatialTables$Geometry;I)Z"⟩
def y_Ge_turn : MethodName := ⟨R_Ge, "turn", "(III)I"⟩
def y_Ge_areOpposite : MethodName := ⟨R_Ge, "areOpposite", "(II)Z"⟩
def y_Ge_isBeside : MethodName := ⟨R_Ge, "isBeside", "(ILSpatialTables$Geometry;I)Z"⟩
def y_Ge_isBetween : MethodName := ⟨R_Ge, "isBetween", "(III)Z"⟩
def y_ST_insert : MethodName := ⟨R_ST, "insert", "(II)I"⟩
def y_ST_isTable : MethodName := ⟨R_ST, "isTable", "(I)Z"⟩
def y_Ta_leastFreeRow : MethodName := ⟨R_Ta, "leastFreeRow", "()I"⟩
def y_Ta_put : MethodName := ⟨R_Ta, "put", "(IILSpatialTables$Geometry;)V"⟩
def y_In_add : MethodName := ⟨R_In, "add", "(LSpatialTables$Bound;)V"⟩
def y_In_newNode : MethodName := ⟨R_In, "newNode", "()I"⟩
def y_In_stretch : MethodName := ⟨R_In, "stretch", "(ILSpatialTables$Bound;)V"⟩
def y_Bo_homeLevel : MethodName := ⟨R_Bo, "homeLevel", "()I"⟩
def y_Bo_quarter : MethodName := ⟨R_Bo, "quarter", "(I)I"⟩
def y_In_partOf : MethodName := ⟨R_In, "partOf", "(II)I"⟩
def y_ST_delete : MethodName := ⟨R_ST, "delete", "(II)Z"⟩
def y_ST_placeOf : MethodName := ⟨R_ST, "placeOf", "(II)LSpatialTables$Geometry;"⟩
def y_Ta_placeAt : MethodName := ⟨R_Ta, "placeAt", "(I)LSpatialTables$Geometry;"⟩
def y_In_rebuild : MethodName := ⟨R_In, "rebuild", "(LSpatialTables$Table;)V"⟩
def y_ST_update : MethodName := ⟨R_ST, "update", "(IIIZ)Z"⟩
def y_ST_select : MethodName := ⟨R_ST, "select", "(IIII)I"⟩
def y_ST_clearAnswers : MethodName := ⟨R_ST, "clearAnswers", "()V"⟩
def y_ST_searchReads : MethodName := ⟨R_ST, "searchReads", "(LSpatialTables$Geometry;II)I"⟩
def y_Ta_rowBits : MethodName := ⟨R_Ta, "rowBits", "()I"⟩
def y_Ig_bitCount : MethodName := ⟨R_Ig, "bitCount", "(I)I"⟩
def y_Di_become : MethodName := ⟨R_Di, "become", "(JJ)V"⟩
def y_ST_readsWithin : MethodName := ⟨R_ST, "readsWithin", "(LSpatialTables$Bound;ILSpatialTables$Distance;)I"⟩
def y_In_countWithin : MethodName := ⟨R_In, "countWithin", "(LSpatialTables$Bound;LSpatialTables$Distance;)I"⟩
def y_Bo_gapToRectangle : MethodName := ⟨R_Bo, "gapToRectangle", "(IIII)I"⟩
def y_Bo_apart : MethodName := ⟨R_Bo, "apart", "(IIII)I"⟩
def y_Di_isAtLeast : MethodName := ⟨R_Di, "isAtLeast", "(I)Z"⟩
def y_Ta_countWithin : MethodName := ⟨R_Ta, "countWithin", "(LSpatialTables$Bound;LSpatialTables$Distance;)I"⟩
def y_Bo_gapTo : MethodName := ⟨R_Bo, "gapTo", "(LSpatialTables$Bound;)I"⟩
def y_ST_rowsFound : MethodName := ⟨R_ST, "rowsFound", "(LSpatialTables$Geometry;II)I"⟩
def y_Di_between : MethodName := ⟨R_Di, "between", "(LSpatialTables$Geometry;LSpatialTables$Geometry;)V"⟩
def y_Ge_encloses : MethodName := ⟨R_Ge, "encloses", "(II)Z"⟩
def y_Di_lessenBySides : MethodName := ⟨R_Di, "lessenBySides", "(LSpatialTables$Geometry;ILSpatialTables$Geometry;I)V"⟩
def y_Di_lessenByEnd : MethodName := ⟨R_Di, "lessenByEnd", "(LSpatialTables$Geometry;ILSpatialTables$Geometry;I)V"⟩
def y_Di_lessen : MethodName := ⟨R_Di, "lessen", "(JJ)V"⟩
def y_Di_isAtMost : MethodName := ⟨R_Di, "isAtMost", "(I)Z"⟩
def y_Ta_amountOf : MethodName := ⟨R_Ta, "amountOf", "(I)I"⟩
def y_ST_hasBit : MethodName := ⟨R_ST, "hasBit", "(II)Z"⟩
def y_ST_addAnswer : MethodName := ⟨R_ST, "addAnswer", "(I)V"⟩
def y_ST_nearest : MethodName := ⟨R_ST, "nearest", "(II)I"⟩
def y_ST_orderByDistance : MethodName := ⟨R_ST, "orderByDistance", "(LSpatialTables$Geometry;LSpatialTables$Table;)I"⟩
def y_ST_putInOrder : MethodName := ⟨R_ST, "putInOrder", "(II)V"⟩
def y_Di_isBelow : MethodName := ⟨R_Di, "isBelow", "(LSpatialTables$Distance;)Z"⟩
def y_In_size : MethodName := ⟨R_In, "size", "()I"⟩
def y_ST_join : MethodName := ⟨R_ST, "join", "(I)I"⟩
def y_ST_addPairs : MethodName := ⟨R_ST, "addPairs", "(II)V"⟩
def y_ST_result : MethodName := ⟨R_ST, "result", "(I)I"⟩
def y_ST_reads : MethodName := ⟨R_ST, "reads", "()I"⟩
def y_ST_measure : MethodName := ⟨R_ST, "measure", "(II)I"⟩
def y_Di_wholePart : MethodName := ⟨R_Di, "wholePart", "()I"⟩
def y_ST_value : MethodName := ⟨R_ST, "value", "(II)I"⟩
def y_ST_rows : MethodName := ⟨R_ST, "rows", "(I)I"⟩
def y_ST_nodes : MethodName := ⟨R_ST, "nodes", "(I)I"⟩
def y_ST_commit : MethodName := ⟨R_ST, "commit", "(I)I"⟩
def y_ST_changedPages : MethodName := ⟨R_ST, "changedPages", "()I"⟩
def y_Ta_hasSameRow : MethodName := ⟨R_Ta, "hasSameRow", "(LSpatialTables$Table;I)Z"⟩
def y_Ge_isSameAs : MethodName := ⟨R_Ge, "isSameAs", "(LSpatialTables$Geometry;)Z"⟩
def y_ST_pageBit : MethodName := ⟨R_ST, "pageBit", "(II)I"⟩
def y_ST_pagesWithRows : MethodName := ⟨R_ST, "pagesWithRows", "()I"⟩
def y_Fr_countFree : MethodName := ⟨R_Fr, "countFree", "()I"⟩
def y_Fr_takenFrames : MethodName := ⟨R_Fr, "takenFrames", "()I"⟩
def y_Fr_switchTo : MethodName := ⟨R_Fr, "switchTo", "(II)V"⟩
def y_Fr_leastFree : MethodName := ⟨R_Fr, "leastFree", "(I)I"⟩
def y_ST_keepPresentTables : MethodName := ⟨R_ST, "keepPresentTables", "()V"⟩
def y_Ta_copy : MethodName := ⟨R_Ta, "copy", "(LSpatialTables$Table;)V"⟩
def y_ST_crash : MethodName := ⟨R_ST, "crash", "()V"⟩
def y_ST_rollback : MethodName := ⟨R_ST, "rollback", "()V"⟩
def y_ST_frame : MethodName := ⟨R_ST, "frame", "(I)I"⟩
def y_Fr_frameOf : MethodName := ⟨R_Fr, "frameOf", "(I)I"⟩
def y_Mo_init : MethodName := ⟨R_Mo, "<init>", "()V"⟩
def y_Mo_vertex : MethodName := ⟨R_Mo, "vertex", "(II)I"⟩
def y_Mo_shape : MethodName := ⟨R_Mo, "shape", "(I)I"⟩
def y_Mo_fault : MethodName := ⟨R_Mo, "fault", "(I)I"⟩
def y_Mo_clash : MethodName := ⟨R_Mo, "clash", "(II)Z"⟩
def y_Mo_stuck : MethodName := ⟨R_Mo, "stuck", "(III)Z"⟩
def y_Mo_cross : MethodName := ⟨R_Mo, "cross", "(IIIIII)J"⟩
def y_Mo_on : MethodName := ⟨R_Mo, "on", "(IIIIII)Z"⟩
def y_Mo_between : MethodName := ⟨R_Mo, "between", "(III)Z"⟩
def y_Mo_apart : MethodName := ⟨R_Mo, "apart", "(IIII)Z"⟩
def y_Mo_bind : MethodName := ⟨R_Mo, "bind", "(I)V"⟩
def y_Mo_insert : MethodName := ⟨R_Mo, "insert", "(II)I"⟩
def y_Mo_isTable : MethodName := ⟨R_Mo, "isTable", "(I)Z"⟩
def y_Mo_size : MethodName := ⟨R_Mo, "size", "(I)I"⟩
def y_Mo_copyShape : MethodName := ⟨R_Mo, "copyShape", "(II)V"⟩
def y_Mo_delete : MethodName := ⟨R_Mo, "delete", "(II)Z"⟩
def y_Mo_slot : MethodName := ⟨R_Mo, "slot", "(II)I"⟩
def y_Mo_update : MethodName := ⟨R_Mo, "update", "(IIIZ)Z"⟩
def y_Mo_select : MethodName := ⟨R_Mo, "select", "(IIII)I"⟩
def y_Mo_finds : MethodName := ⟨R_Mo, "finds", "(III)Z"⟩
def y_Mo_measureOut : MethodName := ⟨R_Mo, "measureOut", "(II)V"⟩
def y_Mo_meet : MethodName := ⟨R_Mo, "meet", "(II)Z"⟩
def y_Mo_sides : MethodName := ⟨R_Mo, "sides", "(I)I"⟩
def y_Mo_corner : MethodName := ⟨R_Mo, "corner", "(III)I"⟩
def y_Mo_touching : MethodName := ⟨R_Mo, "touching", "(IIII)Z"⟩
def y_Mo_lies : MethodName := ⟨R_Mo, "lies", "(III)Z"⟩
def y_Mo_turn : MethodName := ⟨R_Mo, "turn", "(III)J"⟩
def y_Mo_within : MethodName := ⟨R_Mo, "within", "(II)Z"⟩
def y_Mo_reach : MethodName := ⟨R_Mo, "reach", "(III)V"⟩
def y_Mo_searchReads : MethodName := ⟨R_Mo, "searchReads", "(III)I"⟩
def y_Mo_readBy : MethodName := ⟨R_Mo, "readBy", "(IIJJ)I"⟩
def y_Mo_around : MethodName := ⟨R_Mo, "around", "(I)V"⟩
def y_Mo_close : MethodName := ⟨R_Mo, "close", "(IJJ)Z"⟩
def y_Mo_gap : MethodName := ⟨R_Mo, "gap", "(IIII)J"⟩
def y_Mo_home : MethodName := ⟨R_Mo, "home", "(I)I"⟩
def y_Mo_foremost : MethodName := ⟨R_Mo, "foremost", "(II)Z"⟩
def y_Mo_shares : MethodName := ⟨R_Mo, "shares", "(III)Z"⟩
def y_Mo_nodeBound : MethodName := ⟨R_Mo, "nodeBound", "(II)V"⟩
def y_Mo_nearest : MethodName := ⟨R_Mo, "nearest", "(II)I"⟩
def y_Mo_nearer : MethodName := ⟨R_Mo, "nearer", "(II)Z"⟩
def y_Mo_join : MethodName := ⟨R_Mo, "join", "(I)I"⟩
def y_Mo_result : MethodName := ⟨R_Mo, "result", "(I)I"⟩
def y_Mo_reads : MethodName := ⟨R_Mo, "reads", "()I"⟩
def y_Mo_measure : MethodName := ⟨R_Mo, "measure", "(II)I"⟩
def y_Mo_value : MethodName := ⟨R_Mo, "value", "(II)I"⟩
def y_Mo_rows : MethodName := ⟨R_Mo, "rows", "(I)I"⟩
def y_Mo_nodes : MethodName := ⟨R_Mo, "nodes", "(I)I"⟩
def y_Mo_commit : MethodName := ⟨R_Mo, "commit", "(I)I"⟩
def y_Mo_changed : MethodName := ⟨R_Mo, "changed", "(I)Z"⟩
def y_Mo_sameRow : MethodName := ⟨R_Mo, "sameRow", "(II)Z"⟩
def y_Mo_filled : MethodName := ⟨R_Mo, "filled", "(I)Z"⟩
def y_Mo_write : MethodName := ⟨R_Mo, "write", "(I)Z"⟩
def y_Mo_isFree : MethodName := ⟨R_Mo, "isFree", "(I)Z"⟩
def y_Mo_crash : MethodName := ⟨R_Mo, "crash", "()V"⟩
def y_Mo_rollback : MethodName := ⟨R_Mo, "rollback", "()V"⟩
def y_Mo_copyRow : MethodName := ⟨R_Mo, "copyRow", "(II)V"⟩
def y_Mo_frame : MethodName := ⟨R_Mo, "frame", "(I)I"⟩
def zyn : List MethodName := [y_ST_init, y_Fr_init, y_Ar_fill, y_Dr_init, y_Di_init, y_Ta_init, y_In_init, y_ST_vertex, y_Dr_append, y_Dr_isCoordinate, y_ST_shape, y_Dr_hasCountFor, y_Dr_clear, y_Dr_drawn, y_Ar_copyOf, y_Ge_init, y_Bo_init, y_Ge_fault, y_Ge_hasEqualNeighbours, y_Ge_sides, y_Ge_end, y_Ge_touchesItself, y_Ge_mayNotMeetAsTheyDo, y_Ge_foldsBack, y_Ge_sideMeets, y_Ge_turn, y_Ge_areOpposite, y_Ge_isBeside, y_Ge_isBetween, y_ST_insert, y_ST_isTable, y_Ta_leastFreeRow, y_Ta_put, y_In_add, y_In_newNode, y_In_stretch, y_Bo_homeLevel, y_Bo_quarter, y_In_partOf, y_ST_delete, y_ST_placeOf, y_Ta_placeAt, y_In_rebuild, y_ST_update, y_ST_select, y_ST_clearAnswers, y_ST_searchReads, y_Ta_rowBits, y_Ig_bitCount, y_Di_become, y_ST_readsWithin, y_In_countWithin, y_Bo_gapToRectangle, y_Bo_apart, y_Di_isAtLeast, y_Ta_countWithin, y_Bo_gapTo, y_ST_rowsFound, y_Di_between, y_Ge_encloses, y_Di_lessenBySides, y_Di_lessenByEnd, y_Di_lessen, y_Di_isAtMost, y_Ta_amountOf, y_ST_hasBit, y_ST_addAnswer, y_ST_nearest, y_ST_orderByDistance, y_ST_putInOrder, y_Di_isBelow, y_In_size, y_ST_join, y_ST_addPairs, y_ST_result, y_ST_reads, y_ST_measure, y_Di_wholePart, y_ST_value, y_ST_rows, y_ST_nodes, y_ST_commit, y_ST_changedPages, y_Ta_hasSameRow, y_Ge_isSameAs, y_ST_pageBit, y_ST_pagesWithRows, y_Fr_countFree, y_Fr_takenFrames, y_Fr_switchTo, y_Fr_leastFree, y_ST_keepPresentTables, y_Ta_copy, y_ST_crash, y_ST_rollback, y_ST_frame, y_Fr_frameOf, y_Mo_init, y_Mo_vertex, y_Mo_shape, y_Mo_fault, y_Mo_clash, y_Mo_stuck, y_Mo_cross, y_Mo_on, y_Mo_between, y_Mo_apart, y_Mo_bind, y_Mo_insert, y_Mo_isTable, y_Mo_size, y_Mo_copyShape, y_Mo_delete, y_Mo_slot, y_Mo_update, y_Mo_select, y_Mo_finds, y_Mo_measureOut, y_Mo_meet, y_Mo_sides, y_Mo_corner, y_Mo_touching, y_Mo_lies, y_Mo_turn, y_Mo_within, y_Mo_reach, y_Mo_searchReads, y_Mo_readBy, y_Mo_around, y_Mo_close, y_Mo_gap, y_Mo_home, y_Mo_foremost, y_Mo_shares, y_Mo_nodeBound, y_Mo_nearest, y_Mo_nearer, y_Mo_join, y_Mo_result, y_Mo_reads, y_Mo_measure, y_Mo_value, y_Mo_rows, y_Mo_nodes, y_Mo_commit, y_Mo_changed, y_Mo_sameRow, y_Mo_filled, y_Mo_write, y_Mo_isFree, y_Mo_crash, y_Mo_rollback, y_Mo_copyRow, y_Mo_frame]
