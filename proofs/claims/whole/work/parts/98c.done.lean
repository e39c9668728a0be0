/-! ===== what phase B owed ===== -/
theorem pb_done : pb_all pb_F pb_Inv := by
  have h1 : 100 ≤ pb_F := by decide
  have h2 : 500 ≤ pb_F := by decide
  have h3 : 2100 ≤ pb_F := by decide
  have h4 : 30000 ≤ pb_F := by decide
  have h5 : 50000 ≤ pb_F := by decide
  exact ⟨b_feed pb_F h1 K_F, b_text pb_F h2 K_T, b_fault pb_F K_Q, b_first pb_F h1 K_C, b_chance pb_F h1 K_C, b_undo pb_F K_C, b_told pb_F h3 K_G, b_statement pb_F K_Q, b_firstOf pb_F K_Q, b_state pb_F h3 K_G, b_arc pb_F h3 K_G, b_total pb_F h5 K_E, b_value pb_F h5 K_E, b_both pb_F h5 K_E, b_mean pb_F h5 K_E, b_independent pb_F h5 K_E, b_visits pb_F h5 K_E, b_steps pb_F h5 K_E, b_within pb_F h4 K_W, b_classes pb_F h5 K_U, b_classOf pb_F h5 K_U, b_run pb_F h5 K_L, b_worth pb_F h5 K_L, b_print pb_F h5 K_G, b_status pb_F K_Q⟩
theorem pb_mono : ∀ j I L, pb_Inv j I L → pb_Inv (j + 1) I L := by
  intro j I L h
  obtain ⟨b, g, o, c, s, ⟨v1, v⟩⟩ := h
  exact ⟨b, g, o, c, s, by omega, v⟩
theorem od_ok : ∀ k, k < 61 → (mj_od k).toInt = ((k : Nat) : Int) * 715408453 % 998244353 := by decide +kernel
theorem pb_begin : pb_Inv 0 mj_is mj_ls := by
  have n1 : ¬ mj_is 32 1 = 1 := show ¬ (0 : Int32) = 1 by decide
  have n20 : ¬ mj_is 71 20 = 1 := show ¬ (0 : Int32) = 1 by decide
  refine ⟨⟨fun k _ => rfl, ⟨by decide, by decide, fun k hk => absurd hk (show ¬ (k : Int) < 0 by omega)⟩, rfl, vQ_0 (fun v _ => rfl), rfl, ?_, ⟨0, by omega, rfl, rfl, fun k hk => absurd hk (by omega)⟩, ⟨0, by omega, rfl, rfl, fun k hk => absurd hk (by omega)⟩, fun b _ => rfl⟩, ⟨.inl rfl, .inl rfl, fun z => absurd z n1, fun _ z => absurd z n20⟩, ?_, ⟨fun z => absurd z n1, fun z => absurd z n1, fun z => absurd z n1, fun z => absurd z n1⟩, ⟨.inl rfl, fun z => absurd z n1, fun _ => rfl⟩, Int.le_refl _, Int.le_refl _, Int.le_refl _, Int.le_refl _, fun v _ => Int.le_refl _⟩
  · intro k hk
    have h0 : k = 0 ∨ k = 1 ∨ k = 2 ∨ k = 3 ∨ k = 4 ∨ k = 5 := by omega
    rcases h0 with e | e | e | e | e | e <;> subst e <;> rfl
  · intro k hk
    show (if k < 61 then mj_od k else 0).toInt = _
    rw [if_pos hk]
    exact od_ok k hk
