/-! ===== the text: the start ===== -/
theorem stk_0 {c : Nat → Nat → Int32} (h15 : c 15 0 = -1) (h16 : c 16 0 = -1) : stk c 0 0 :=
  ⟨h15, fun e e1 e2 => absurd e2 (by omega), fun e he => .inl (by have : e = 0 := by omega
                                                                  rw [this]; exact h16), fun k hk => absurd hk (by omega)⟩
theorem lk_0 (c : Nat → Nat → Int32) (r : Nat → Int32) (d : Nat) : LK c r d 0 := fun _ _ _ k hk _ => absurd hk (by omega)
theorem cnt_0 (c : Nat → Nat → Int32) (r : Nat → Int32) : cnt c r 0 := fun k hk => absurd hk (by omega)
theorem own_0 (c : Nat → Nat → Int32) (r : Nat → Int32) (K : Nat) : own_ c r 0 K := fun e e1 e2 => absurd e2 (by omega)
