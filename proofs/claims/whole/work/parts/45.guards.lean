/-! ===== refusals ===== -/
theorem q_arg (F : Nat) (r70 : Nat → Int32) : fnX10_refuseArgument F r70 = some (.inr (1, upd r70 1 (r70 1 + 1))) := by
  unfold fnX10_refuseArgument
  rw [if_pos (by decide), if_pos (by decide)]
  rfl
theorem q_elem (F : Nat) (r70 : Nat → Int32) : fnX10_refuseElement F r70 = some (.inr (0, upd r70 0 (r70 0 + 1))) := by
  unfold fnX10_refuseElement
  rw [if_pos (by decide), if_pos (by decide)]
  rfl
theorem q_state (F : Nat) (r70 : Nat → Int32) : fnX10_refuseState F r70 = some (.inr (2, upd r70 2 (r70 2 + 1))) := by
  unfold fnX10_refuseState
  rw [if_pos (by decide), if_pos (by decide)]
  rfl
theorem q_num_in (F : Nat) (r70 : Nat → Int32) {x a b : Int32} (h : a.toInt ≤ x.toInt ∧ x.toInt ≤ b.toInt) : fnX10_needNumber F r70 x a b = some (.inl r70) := by
  unfold fnX10_needNumber
  rw [if_neg (fun z => by have := i_lt.mp z; omega), if_pos (i_le.mpr h.2)]
theorem q_num_out (F : Nat) (r70 : Nat → Int32) {x a b : Int32} (h : ¬ (a.toInt ≤ x.toInt ∧ x.toInt ≤ b.toInt)) : fnX10_needNumber F r70 x a b = some (.inr (1, upd r70 1 (r70 1 + 1))) := by
  unfold fnX10_needNumber
  rw [q_arg]
  by_cases z : x < a
  · rw [if_pos z]; rfl
  · have z1 : ¬ x.toInt < a.toInt := fun w => z (i_lt.mpr w)
    rw [if_neg z, if_neg (fun w => by have := i_le.mp w; omega)]; rfl
theorem q_form_in (F : Nat) (r70 : Nat → Int32) {x : Int32} (h : 0 ≤ x.toInt ∧ x.toInt ≤ 2) : fnX10_needForm F r70 x = some (.inl r70) := by
  unfold fnX10_needForm
  rw [q_num_in F r70 (a := 0) (b := 2) h]
  rfl
theorem q_form_out (F : Nat) (r70 : Nat → Int32) {x : Int32} (h : ¬ (0 ≤ x.toInt ∧ x.toInt ≤ 2)) : fnX10_needForm F r70 x = some (.inr (1, upd r70 1 (r70 1 + 1))) := by
  unfold fnX10_needForm
  rw [q_num_out F r70 (a := 0) (b := 2) h]
  rfl
theorem q_var_in (F : Nat) (r70 : Nat → Int32) {x : Int32} (h : 0 ≤ x.toInt ∧ x.toInt < 6) : fnX10_needVariable F r70 x = some (.inl r70) := by
  have e0 : (0 : Int32).toInt = 0 := rfl
  have e6 : (6 : Int32).toInt = 6 := rfl
  unfold fnX10_needVariable
  rw [if_neg (fun z => by have := i_lt.mp z; omega), if_pos (i_lt.mpr (by omega))]
theorem q_var_out (F : Nat) (r70 : Nat → Int32) {x : Int32} (h : ¬ (0 ≤ x.toInt ∧ x.toInt < 6)) : fnX10_needVariable F r70 x = some (.inr (0, upd r70 0 (r70 0 + 1))) := by
  have e0 : (0 : Int32).toInt = 0 := rfl
  have e6 : (6 : Int32).toInt = 6 := rfl
  unfold fnX10_needVariable
  rw [q_elem]
  by_cases z : x < 0
  · rw [if_pos z]; rfl
  · have z1 : ¬ x.toInt < 0 := fun w => z (i_lt.mpr w)
    rw [if_neg z, if_neg (fun w => by have := i_lt.mp w; omega)]; rfl
theorem q_stm_in (F : Nat) (r18 r70 : Nat → Int32) {x : Int32} (h : 0 ≤ x.toInt ∧ x.toInt < (r18 0).toInt) : fnX10_needStatement F r18 r70 x = some (.inl r70) := by
  have e0 : (0 : Int32).toInt = 0 := rfl
  unfold fnX10_needStatement
  rw [if_neg (fun z => by have := i_lt.mp z; omega), if_pos (i_lt.mpr (by omega))]
theorem q_stm_out (F : Nat) (r18 r70 : Nat → Int32) {x : Int32} (h : ¬ (0 ≤ x.toInt ∧ x.toInt < (r18 0).toInt)) : fnX10_needStatement F r18 r70 x = some (.inr (0, upd r70 0 (r70 0 + 1))) := by
  have e0 : (0 : Int32).toInt = 0 := rfl
  unfold fnX10_needStatement
  rw [q_elem]
  by_cases z : x < 0
  · rw [if_pos z]; rfl
  · have z1 : ¬ x.toInt < 0 := fun w => z (i_lt.mpr w)
    rw [if_neg z, if_neg (fun w => by have := i_lt.mp w; omega)]; rfl
theorem q_sta_in (F : Nat) (r32 r70 : Nat → Int32) {x : Int32} (h : 0 ≤ x.toInt ∧ x.toInt < (r32 2).toInt) : fnX10_needState F r32 r70 x = some (.inl r70) := by
  have e0 : (0 : Int32).toInt = 0 := rfl
  unfold fnX10_needState
  rw [if_neg (fun z => by have := i_lt.mp z; omega), if_pos (i_lt.mpr (by omega))]
theorem q_sta_out (F : Nat) (r32 r70 : Nat → Int32) {x : Int32} (h : ¬ (0 ≤ x.toInt ∧ x.toInt < (r32 2).toInt)) : fnX10_needState F r32 r70 x = some (.inr (0, upd r70 0 (r70 0 + 1))) := by
  have e0 : (0 : Int32).toInt = 0 := rfl
  unfold fnX10_needState
  rw [q_elem]
  by_cases z : x < 0
  · rw [if_pos z]; rfl
  · have z1 : ¬ x.toInt < 0 := fun w => z (i_lt.mpr w)
    rw [if_neg z, if_neg (fun w => by have := i_lt.mp w; omega)]; rfl
theorem q_end_in (F : Nat) (r32 r70 : Nat → Int32) (h : ¬ r32 4 = 0) : fnX10_needEnd F r32 r70 = some (.inl r70) := by
  unfold fnX10_needEnd
  rw [if_neg h]
theorem q_end_out (F : Nat) (r32 r70 : Nat → Int32) (h : r32 4 = 0) : fnX10_needEnd F r32 r70 = some (.inr (2, upd r70 2 (r70 2 + 1))) := by
  unfold fnX10_needEnd
  rw [if_pos h, q_state]
  rfl
theorem l_i32 (x : Int32) : x.toInt64.toInt = x.toInt := Int32.toInt_toInt64 x
theorem q_lies_in (F : Nat) {x a b : Int64} (h : a.toInt ≤ x.toInt ∧ x.toInt ≤ b.toInt) : fnX11_lies F x a b = some 1 := by
  unfold fnX11_lies
  rw [if_neg (fun z => by have := Int64.lt_iff_toInt_lt.mp z; omega), if_neg (fun z => by have := Int64.lt_iff_toInt_lt.mp z; omega)]
theorem q_lies_out (F : Nat) {x a b : Int64} (h : ¬ (a.toInt ≤ x.toInt ∧ x.toInt ≤ b.toInt)) : fnX11_lies F x a b = some 0 := by
  unfold fnX11_lies
  by_cases z : x < a
  · rw [if_pos z]
  · have z1 : ¬ x.toInt < a.toInt := fun w => z (Int64.lt_iff_toInt_lt.mpr w)
    rw [if_neg z, if_pos (Int64.lt_iff_toInt_lt.mpr (by omega))]
theorem q_lies3_in (F : Nat) {x : Int32} {a b : Int64} (h : a.toInt ≤ x.toInt ∧ x.toInt ≤ b.toInt) : fnX11_lies F x.toInt64 a b = some 1 := q_lies_in F (by rw [l_i32]; exact h)
theorem q_lies3_out (F : Nat) {x : Int32} {a b : Int64} (h : ¬ (a.toInt ≤ x.toInt ∧ x.toInt ≤ b.toInt)) : fnX11_lies F x.toInt64 a b = some 0 := q_lies_out F (by rw [l_i32]; exact h)
theorem q_isForm_in (F : Nat) {x : Int32} (h : 0 ≤ x.toInt ∧ x.toInt ≤ 2) : fnX11_isForm F x = some 1 := by
  unfold fnX11_isForm
  rw [q_lies3_in F (a := 0) (b := 2) h]
  rfl
theorem q_isForm_out (F : Nat) {x : Int32} (h : ¬ (0 ≤ x.toInt ∧ x.toInt ≤ 2)) : fnX11_isForm F x = some 0 := by
  unfold fnX11_isForm
  rw [q_lies3_out F (a := 0) (b := 2) h]
  rfl
theorem q_isName_in (F : Nat) {x : Int32} (h : 0 ≤ x.toInt ∧ x.toInt < 6) : fnX11_isName F x = some 1 := by
  unfold fnX11_isName
  rw [q_lies3_in F (a := 0) (b := 5) ⟨h.1, show x.toInt ≤ 5 by omega⟩]
  rfl
theorem q_isName_out (F : Nat) {x : Int32} (h : ¬ (0 ≤ x.toInt ∧ x.toInt < 6)) : fnX11_isName F x = some 0 := by
  unfold fnX11_isName
  rw [q_lies3_out F (a := 0) (b := 5) (fun z => h ⟨z.1, by have : x.toInt ≤ 5 := z.2; omega⟩)]
  rfl
theorem q_isStm_in (F : Nat) {r71 : Nat → Int32} (hC : 0 ≤ (r71 4).toInt ∧ (r71 4).toInt ≤ 40) {x : Int32} (h : 0 ≤ x.toInt ∧ x.toInt < (r71 4).toInt) : fnX11_isStatement F r71 x = some 1 := by
  have e1 : (1 : Int32).toInt = 1 := rfl
  have es : (r71 4 - 1).toInt = (r71 4).toInt - 1 := by rw [i_sub (by omega) (by omega), e1]
  unfold fnX11_isStatement
  rw [q_lies3_in F (a := 0) ⟨h.1, by rw [l_i32, es]; omega⟩]
  rfl
theorem q_isStm_out (F : Nat) {r71 : Nat → Int32} (hC : 0 ≤ (r71 4).toInt ∧ (r71 4).toInt ≤ 40) {x : Int32} (h : ¬ (0 ≤ x.toInt ∧ x.toInt < (r71 4).toInt)) : fnX11_isStatement F r71 x = some 0 := by
  have e1 : (1 : Int32).toInt = 1 := rfl
  have es : (r71 4 - 1).toInt = (r71 4).toInt - 1 := by rw [i_sub (by omega) (by omega), e1]
  unfold fnX11_isStatement
  rw [q_lies3_out F (a := 0) (fun z => h ⟨z.1, by have w := z.2; rw [l_i32, es] at w; omega⟩)]
  rfl
theorem q_isSta_in (F : Nat) {r71 : Nat → Int32} (hC : 0 ≤ (r71 24).toInt ∧ (r71 24).toInt ≤ 200) {x : Int32} (h : 0 ≤ x.toInt ∧ x.toInt < (r71 24).toInt) : fnX11_isState F r71 x = some 1 := by
  have e1 : (1 : Int32).toInt = 1 := rfl
  have es : (r71 24 - 1).toInt = (r71 24).toInt - 1 := by rw [i_sub (by omega) (by omega), e1]
  unfold fnX11_isState
  rw [q_lies3_in F (a := 0) ⟨h.1, by rw [l_i32, es]; omega⟩]
  rfl
theorem q_isSta_out (F : Nat) {r71 : Nat → Int32} (hC : 0 ≤ (r71 24).toInt ∧ (r71 24).toInt ≤ 200) {x : Int32} (h : ¬ (0 ≤ x.toInt ∧ x.toInt < (r71 24).toInt)) : fnX11_isState F r71 x = some 0 := by
  have e1 : (1 : Int32).toInt = 1 := rfl
  have es : (r71 24 - 1).toInt = (r71 24).toInt - 1 := by rw [i_sub (by omega) (by omega), e1]
  unfold fnX11_isState
  rw [q_lies3_out F (a := 0) (fun z => h ⟨z.1, by have w := z.2; rw [l_i32, es] at w; omega⟩)]
  rfl
theorem q_fine (F : Nat) {r71 r72 : Nat → Int32} {c k : Int32} (h : r71 0 = 0) : fnX11_isFine F r71 r72 1 c k = some (1, r71, r72) := by
  unfold fnX11_isFine
  rw [if_neg (show ¬ (1 : Int32) = 0 from by decide), if_pos h]
theorem q_fine0 (F : Nat) {r71 r72 : Nat → Int32} {c k : Int32} (h : r71 0 = 0) (hc : ¬ c = 0) (hk : 0 ≤ k.toInt ∧ k.toInt < 3) : fnX11_isFine F r71 r72 0 c k = some (0, upd r71 0 c, upd r72 k.toNatClampNeg (r72 k.toNatClampNeg + 1)) := by
  have hi : mj_ib k 3 = true := mj_ib_of (by omega) (by omega)
  unfold fnX11_isFine
  rw [if_pos rfl, if_pos h, if_pos hi, if_pos hi, if_neg hc]
