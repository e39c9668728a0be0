/-! ===== the mini world: cells by small numbers, int rows, long rows, references, shapes ===== -/
def mj_tb : List Cond := lw_tbl.filter goodWord
theorem mj_tb_in {w : Cond} {i : Nat} (h : lw_tbl[i]? = some w) (g : goodWord w = true) : w ∈ mj_tb := List.mem_filter.mpr ⟨List.mem_of_getElem? h, g⟩
theorem mj_gi {w : Cond} (h : w ∈ mj_tb) : (w.onTables && w.keeps) = true ∨ ∃ ty, w = .arrayClass ty := good_of_word (List.mem_filter.mp h).2
theorem mj_goodIn {ws : List Cond} (h : ∀ w ∈ ws, w ∈ mj_tb) : GoodIn mj_tb ws := fun w hw => ⟨h w hw, mj_gi (h w hw)⟩
/-- the classes of the world's objects -/
abbrev mj_cl : List vw_C := [(RX0, TX0, 3), (RX2, TX2, 15), (RX4, TX4, 16), (RX5, TX5, 7), (RX6, TX6, 9), (RX7, TX7, 11), (RX8, TX8, 14), (RX9, TX9, 5), (RX10, TX10, 11), (RX11, TX11, 46)]
/-- the fields' types -/
def mj_ty : List (Nat → FieldType) := [tyX0, tyX2, tyX4, tyX5, tyX6, tyX7, tyX8, tyX9, tyX10, tyX11]
/-- how a field is held: 0 an int, 1 a long, 2 a reference -/
def mj_tc (t : FieldType) : Nat := match t with
  | .long => 1
  | .object _ => 2
  | .array _ => 2
  | _ => 0
def mj_nf (ci : Nat) : Nat := (mj_cl.getD ci ("", fun _ => ("", "", "", false), 0)).2.2
def mj_ft (ci k : Nat) : FieldType := (mj_ty.getD ci (fun _ => .int)) k
theorem mj_many {ws : List Cond} (ps : List Nat) (hp : ws = ps.filterMap (fun i => lw_tbl[i]?)) (h : ws.all goodWord = true) : ∀ w ∈ ws, w ∈ mj_tb := by
  intro w hw
  have h1 := List.all_eq_true.mp h w hw
  rw [hp] at hw
  obtain ⟨i, -, hi⟩ := List.mem_filterMap.mp hw
  exact mj_tb_in hi h1
def mj_T (ci : Nat) : u_T := (mj_cl.getD ci ("", fun _ => ("", "", "", false), 0)).2.1
def mj_Rn (ci : Nat) : String := (mj_cl.getD ci ("", fun _ => ("", "", "", false), 0)).1
theorem mj_cl_at {ci : Nat} (h : ci < 10) : mj_cl[ci]? = some (mj_Rn ci, mj_T ci, mj_nf ci) := by
  rcases ci with _ | _ | _ | _ | _ | _ | _ | _ | _ | _ | ci <;> first | rfl | (exact absurd h (by omega))
/-- what the tables say of a class -/
def mj_K1 (ci : Nat) : Prop := ci < 10 ∧ (∀ w ∈ u_ws (mj_Rn ci) (mj_T ci) (mj_nf ci), w ∈ mj_tb) ∧ (∀ k, k < mj_nf ci → parseFieldDescriptor (mj_T ci k).2.2.1 = some (mj_ft ci k)) ∧ (∀ a, a < mj_nf ci → ∀ b, b < mj_nf ci → a ≠ b → (mj_T ci a).2.1 ≠ (mj_T ci b).2.1)
/-- a field's link -/
def mj_fl (own : String) (ix ci k : Nat) : Prop := mj_K1 ci ∧ k < mj_nf ci ∧ Cond.fieldLink own ix (mj_T ci k).1 (mj_T ci k).2.1 (mj_T ci k).2.2.1 ∈ mj_tb
/-- what the tables say of a call -/
def mj_cw (own : String) (ix : Nat) (y : MethodName) (cc : ByteArray) (mL : Nat) (ret : Option FieldType) (np : Nat) : Prop :=
  Cond.code y cc mL ret ∈ mj_tb ∧ Cond.initialized y.cls ∈ mj_tb ∧ Cond.methodLink own ix y ∈ mj_tb ∧ (y.cls ≠ "java/lang/invoke/MethodHandle" ∧ y.cls ≠ "java/lang/invoke/VarHandle" ∧ (parseMethodDescriptor y.desc).map (fun d => d.parameters.length) = some np) ∧ mL ≤ 22
def mj_cv (own : String) (ix : Nat) (y : MethodName) (cc : ByteArray) (mL : Nat) (ret : Option FieldType) (np ci : Nat) : Prop :=
  mj_cw own ix y cc mL ret np ∧ Cond.instanceMethod y ∈ mj_tb ∧ Cond.selects (mj_Rn ci) y y ∈ mj_tb ∧ ci < 10
def mj_cs (own : String) (ix : Nat) (y : MethodName) (cc : ByteArray) (mL : Nat) (ret : Option FieldType) (np : Nat) : Prop :=
  mj_cw own ix y cc mL ret np ∧ Cond.static y ∈ mj_tb

theorem mj_seg_0 {w : Cond} {j : Nat} (h : (k2_sels lw_privs)[j]? = some w) (g : goodWord w = true) : w ∈ mj_tb := List.mem_filter.mpr ⟨List.mem_append_left _ (List.mem_of_getElem? h), g⟩
theorem mj_tab {w : Cond} (h : w ∈ tables_1) (g : goodWord w = true) : w ∈ mj_tb := List.mem_filter.mpr ⟨List.mem_append_right _ h, g⟩
theorem mj_seg_1 {w : Cond} {j : Nat} (h : tables_1_1[j]? = some w) (g : goodWord w = true) : w ∈ mj_tb := mj_tab (List.mem_append_left _ (List.mem_of_getElem? h)) g
theorem mj_seg_2 {w : Cond} {j : Nat} (h : tables_1_2[j]? = some w) (g : goodWord w = true) : w ∈ mj_tb := mj_tab (List.mem_append_right _ (List.mem_append_left _ (List.mem_of_getElem? h))) g
theorem mj_seg_3 {w : Cond} {j : Nat} (h : tables_1_3[j]? = some w) (g : goodWord w = true) : w ∈ mj_tb := mj_tab (List.mem_append_right _ (List.mem_append_right _ (List.mem_append_left _ (List.mem_of_getElem? h)))) g
theorem mj_seg_4 {w : Cond} {j : Nat} (h : tables_1_4[j]? = some w) (g : goodWord w = true) : w ∈ mj_tb := mj_tab (List.mem_append_right _ (List.mem_append_right _ (List.mem_append_right _ (List.mem_append_left _ (List.mem_of_getElem? h))))) g
theorem mj_seg_5 {w : Cond} {j : Nat} (h : tables_1_5[j]? = some w) (g : goodWord w = true) : w ∈ mj_tb := mj_tab (List.mem_append_right _ (List.mem_append_right _ (List.mem_append_right _ (List.mem_append_right _ (List.mem_append_left _ (List.mem_of_getElem? h)))))) g
theorem mj_seg_6 {w : Cond} {j : Nat} (h : tables_1_6[j]? = some w) (g : goodWord w = true) : w ∈ mj_tb := mj_tab (List.mem_append_right _ (List.mem_append_right _ (List.mem_append_right _ (List.mem_append_right _ (List.mem_append_right _ (List.mem_append_left _ (List.mem_of_getElem? h))))))) g
theorem mj_seg_7 {w : Cond} {j : Nat} (h : tables_1_7[j]? = some w) (g : goodWord w = true) : w ∈ mj_tb := mj_tab (List.mem_append_right _ (List.mem_append_right _ (List.mem_append_right _ (List.mem_append_right _ (List.mem_append_right _ (List.mem_append_right _ (List.mem_append_left _ (List.mem_of_getElem? h)))))))) g
theorem mj_seg_8 {w : Cond} {j : Nat} (h : tables_1_8[j]? = some w) (g : goodWord w = true) : w ∈ mj_tb := mj_tab (List.mem_append_right _ (List.mem_append_right _ (List.mem_append_right _ (List.mem_append_right _ (List.mem_append_right _ (List.mem_append_right _ (List.mem_append_right _ (List.mem_append_left _ (List.mem_of_getElem? h))))))))) g
theorem mj_seg_9 {w : Cond} {j : Nat} (h : tables_1_9[j]? = some w) (g : goodWord w = true) : w ∈ mj_tb := mj_tab (List.mem_append_right _ (List.mem_append_right _ (List.mem_append_right _ (List.mem_append_right _ (List.mem_append_right _ (List.mem_append_right _ (List.mem_append_right _ (List.mem_append_right _ (List.mem_of_getElem? h))))))))) g
