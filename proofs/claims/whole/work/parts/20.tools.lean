/-! ===== phase B: tools: what a pure function gives; machine numbers by their values ===== -/
def sp {α : Type} (x : Option α) (Q : α → Prop) : Prop := ∃ a, x = some a ∧ Q a
theorem sp_some {α : Type} {a : α} {Q : α → Prop} (h : Q a) : sp (some a) Q := ⟨a, rfl, h⟩
theorem sp_mono {α : Type} {x : Option α} {P Q : α → Prop} (h : sp x P) (k : ∀ a, P a → Q a) : sp x Q := by
  obtain ⟨a, h1, h2⟩ := h
  exact ⟨a, h1, k a h2⟩
theorem sp_bind {α β : Type} {x : Option α} {f : α → Option β} {P : α → Prop} {Q : β → Prop} (h : sp x P) (k : ∀ a, P a → sp (f a) Q) : sp (x.bind f) Q := by
  obtain ⟨a, h1, h2⟩ := h
  rw [h1]
  exact k a h2
theorem sp_pos {α : Type} {c : Prop} [Decidable c] {A B : Option α} {Q : α → Prop} (hc : c) (h : sp A Q) : sp (if c then A else B) Q := by rw [if_pos hc]; exact h
theorem sp_neg {α : Type} {c : Prop} [Decidable c] {A B : Option α} {Q : α → Prop} (hc : ¬ c) (h : sp B Q) : sp (if c then A else B) Q := by rw [if_neg hc]; exact h
theorem sp_ite {α : Type} {c : Prop} [Decidable c] {A B : Option α} {Q : α → Prop} (h1 : c → sp A Q) (h2 : ¬ c → sp B Q) : sp (if c then A else B) Q := by
  by_cases hc : c
  · exact sp_pos hc (h1 hc)
  · exact sp_neg hc (h2 hc)
theorem sp_map {α β : Type} {x : Option α} {f : α → β} {Q : β → Prop} (h : sp x (fun a => Q (f a))) : sp (x.map f) Q := by
  obtain ⟨a, h1, h2⟩ := h
  rw [h1]
  exact ⟨f a, rfl, h2⟩
theorem sp_eq {α : Type} {x : Option α} {a : α} (h : sp x (fun b => b = a)) : x = some a := by
  obtain ⟨b, h1, rfl⟩ := h
  exact h1
theorem sp_of {α : Type} {x : Option α} {a : α} (h : x = some a) : sp x (fun b => b = a) := ⟨a, h, rfl⟩
/-- a loop, by what stays and a number that falls -/
theorem sp_it {σ ε : Type} {body : σ → Option (σ ⊕ ε)} {Q : ε → Prop} (J : σ → Prop) (μ : σ → Nat) (h : ∀ s, J s → sp (body s) (Sum.elim (fun s' => J s' ∧ μ s' < μ s) Q)) : ∀ (n : Nat) (s : σ), J s → μ s < n → sp (mj_it body n s) Q := by
  intro n
  induction n with
  | zero => intro s _ h2; exact absurd h2 (Nat.not_lt_zero _)
  | succ n ih =>
    intro s h1 h2
    refine sp_bind (h s h1) ?_
    intro a ha
    rcases a with s' | e
    · exact ih s' ha.1 (by have := ha.2; omega)
    · exact sp_some ha
theorem sp_u2 {α β γ : Type} {f : α → β → Option γ} {a : α} {b : β} {Q : γ → Prop} (h : sp (f a b) Q) : sp (mj_u2 f (a, b)) Q := h
-- ints
theorem i_cl (x : Int32) : x.toNatClampNeg = x.toInt.toNat := rfl
theorem i_lt {a b : Int32} : a < b ↔ a.toInt < b.toInt := Int32.lt_iff_toInt_lt
theorem i_le {a b : Int32} : a ≤ b ↔ a.toInt ≤ b.toInt := Int32.le_iff_toInt_le
theorem i_eq {a b : Int32} : a = b ↔ a.toInt = b.toInt := Int32.toInt_inj.symm
theorem i_add {a b : Int32} (h1 : -2147483648 ≤ a.toInt + b.toInt) (h2 : a.toInt + b.toInt < 2147483648) : (a + b).toInt = a.toInt + b.toInt := by
  rw [Int32.toInt_add]
  exact Int.bmod_eq_of_le_mul_two (by omega) (by omega)
theorem i_sub {a b : Int32} (h1 : -2147483648 ≤ a.toInt - b.toInt) (h2 : a.toInt - b.toInt < 2147483648) : (a - b).toInt = a.toInt - b.toInt := by
  rw [Int32.toInt_sub]
  exact Int.bmod_eq_of_le_mul_two (by omega) (by omega)
theorem i_mul {a b : Int32} (h1 : -2147483648 ≤ a.toInt * b.toInt) (h2 : a.toInt * b.toInt < 2147483648) : (a * b).toInt = a.toInt * b.toInt := by
  rw [Int32.toInt_mul]
  exact Int.bmod_eq_of_le_mul_two (by omega) (by omega)
theorem i_lo (x : Int32) : -2147483648 ≤ x.toInt := Int32.le_toInt x
theorem i_hi (x : Int32) : x.toInt < 2147483648 := Int32.toInt_lt x
theorem i_div {a b : Int32} (h1 : 0 ≤ a.toInt) (h2 : 0 < b.toInt) : (a / b).toInt = a.toInt / b.toInt := by
  have h3 := i_hi a
  have h4 : a.toInt / b.toInt ≤ a.toInt := Int.ediv_le_self _ h1
  have h5 : 0 ≤ a.toInt / b.toInt := Int.ediv_nonneg h1 (by omega)
  rw [Int32.toInt_div, Int.tdiv_eq_ediv_of_nonneg h1]
  exact Int.bmod_eq_of_le_mul_two (by omega) (by omega)
theorem i_rem {a b : Int32} (h1 : 0 ≤ a.toInt) (h2 : 0 < b.toInt) : (a - a / b * b).toInt = a.toInt % b.toInt := by
  have h3 := i_hi a
  have h6 : b.toInt * (a.toInt / b.toInt) + a.toInt % b.toInt = a.toInt := by
    have := Int.emod_def a.toInt b.toInt
    omega
  have h7 := Int.emod_nonneg a.toInt (show b.toInt ≠ 0 by omega)
  have h8 := Int.mul_comm b.toInt (a.toInt / b.toInt)
  have h9 : 0 ≤ a.toInt / b.toInt * b.toInt := Int.mul_nonneg (Int.ediv_nonneg h1 (by omega)) (by omega)
  have e := i_div h1 h2
  have e2 : (a / b * b).toInt = a.toInt / b.toInt * b.toInt := by
    rw [i_mul (by rw [e]; omega) (by rw [e]; omega), e]
  rw [i_sub (by rw [e2]; omega) (by rw [e2]; omega), e2]
  omega
-- longs
theorem l_lt {a b : Int64} : a < b ↔ a.toInt < b.toInt := Int64.lt_iff_toInt_lt
theorem l_le {a b : Int64} : a ≤ b ↔ a.toInt ≤ b.toInt := Int64.le_iff_toInt_le
theorem l_eq {a b : Int64} : a = b ↔ a.toInt = b.toInt := Int64.toInt_inj.symm
theorem l_add {a b : Int64} (h1 : -9223372036854775808 ≤ a.toInt + b.toInt) (h2 : a.toInt + b.toInt < 9223372036854775808) : (a + b).toInt = a.toInt + b.toInt := by
  rw [Int64.toInt_add]
  exact Int.bmod_eq_of_le_mul_two (by omega) (by omega)
theorem l_sub {a b : Int64} (h1 : -9223372036854775808 ≤ a.toInt - b.toInt) (h2 : a.toInt - b.toInt < 9223372036854775808) : (a - b).toInt = a.toInt - b.toInt := by
  rw [Int64.toInt_sub]
  exact Int.bmod_eq_of_le_mul_two (by omega) (by omega)
theorem l_mul {a b : Int64} (h1 : -9223372036854775808 ≤ a.toInt * b.toInt) (h2 : a.toInt * b.toInt < 9223372036854775808) : (a * b).toInt = a.toInt * b.toInt := by
  rw [Int64.toInt_mul]
  exact Int.bmod_eq_of_le_mul_two (by omega) (by omega)
theorem l_lo (x : Int64) : -9223372036854775808 ≤ x.toInt := Int64.le_toInt x
theorem l_hi (x : Int64) : x.toInt < 9223372036854775808 := Int64.toInt_lt x
theorem l_div {a b : Int64} (h1 : 0 ≤ a.toInt) (h2 : 0 < b.toInt) : (a / b).toInt = a.toInt / b.toInt := by
  have h3 := l_hi a
  have h4 : a.toInt / b.toInt ≤ a.toInt := Int.ediv_le_self _ h1
  have h5 : 0 ≤ a.toInt / b.toInt := Int.ediv_nonneg h1 (by omega)
  rw [Int64.toInt_div, Int.tdiv_eq_ediv_of_nonneg h1]
  exact Int.bmod_eq_of_le_mul_two (by omega) (by omega)
theorem l_rem {a b : Int64} (h1 : 0 ≤ a.toInt) (h2 : 0 < b.toInt) : (a - a / b * b).toInt = a.toInt % b.toInt := by
  have h3 := l_hi a
  have h6 : b.toInt * (a.toInt / b.toInt) + a.toInt % b.toInt = a.toInt := by
    have := Int.emod_def a.toInt b.toInt
    omega
  have h7 := Int.emod_nonneg a.toInt (show b.toInt ≠ 0 by omega)
  have h8 := Int.mul_comm b.toInt (a.toInt / b.toInt)
  have h9 : 0 ≤ a.toInt / b.toInt * b.toInt := Int.mul_nonneg (Int.ediv_nonneg h1 (by omega)) (by omega)
  have e := l_div h1 h2
  have e2 : (a / b * b).toInt = a.toInt / b.toInt * b.toInt := by
    rw [l_mul (by rw [e]; omega) (by rw [e]; omega), e]
  rw [l_sub (by rw [e2]; omega) (by rw [e2]; omega), e2]
  omega
theorem i_l (x : Int32) : x.toInt64.toInt = x.toInt := Int32.toInt_toInt64 x
theorem l_i {x : Int64} (h1 : -2147483648 ≤ x.toInt) (h2 : x.toInt < 2147483648) : x.toInt32.toInt = x.toInt := by
  rw [Int64.toInt_toInt32]
  exact Int.bmod_eq_of_le_mul_two (by omega) (by omega)
theorem mj_ib_of {i : Int32} {N : Nat} (h1 : 0 ≤ i.toInt) (h2 : i.toInt < N) : mj_ib i N = true := by
  have e : (0 : Int32).toInt = 0 := rfl
  have h3 : (0 : Int32) ≤ i := i_le.mpr (by rw [e]; exact h1)
  have h4 : i.toNatClampNeg < N := by rw [i_cl]; omega
  simp only [mj_ib, h3, h4, decide_true, Bool.and_true]
theorem i_of (z : Int) (h1 : -2147483648 ≤ z) (h2 : z < 2147483648) : (Int32.ofInt z).toInt = z := by
  rw [Int32.toInt_ofInt, show Int32.size = 4294967296 from rfl]
  exact Int.bmod_eq_of_le_mul_two (by omega) (by omega)
theorem l_of (z : Int) (h1 : -9223372036854775808 ≤ z) (h2 : z < 9223372036854775808) : (Int64.ofInt z).toInt = z := by
  rw [Int64.toInt_ofInt, show Int64.size = 18446744073709551616 from rfl]
  exact Int.bmod_eq_of_le_mul_two (by omega) (by omega)
theorem i_self (x : Int32) : Int32.ofInt x.toInt = x := Int32.ofInt_toInt x
theorem upd_at {r : Nat → Int32} {k : Nat} {v : Int32} : upd r k v k = v := by simp [upd]
theorem upd_ne {r : Nat → Int32} {k j : Nat} {v : Int32} (h : j ≠ k) : upd r k v j = r j := by simp [upd, h]
theorem updL_at {r : Nat → Int64} {k : Nat} {v : Int64} : vp_updL r k v k = v := by simp [vp_updL]
theorem updL_ne {r : Nat → Int64} {k j : Nat} {v : Int64} (h : j ≠ k) : vp_updL r k v j = r j := by simp [vp_updL, h]
