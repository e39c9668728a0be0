/-! ===== owed of phase B (open) ===== -/
def pb_F : Nat := 100000
def pb_Inv : mj_IT → mj_LT → Prop := fun _ _ => True
theorem pb_done : pb_all pb_F pb_Inv := by
  sorry
theorem pb_begin : pb_Inv mj_is mj_ls := trivial
