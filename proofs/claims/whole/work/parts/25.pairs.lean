/-! ===== two programs side by side ===== -/
def sp2 {α β : Type} (x : Option α) (y : Option β) (Q : α → β → Prop) : Prop := ∃ a b, x = some a ∧ y = some b ∧ Q a b
theorem sp2_some {α β : Type} {a : α} {b : β} {Q : α → β → Prop} (h : Q a b) : sp2 (some a) (some b) Q := ⟨a, b, rfl, rfl, h⟩
theorem sp2_mono {α β : Type} {x : Option α} {y : Option β} {P Q : α → β → Prop} (h : sp2 x y P) (k : ∀ a b, P a b → Q a b) : sp2 x y Q := by
  obtain ⟨a, b, h1, h2, h3⟩ := h
  exact ⟨a, b, h1, h2, k a b h3⟩
theorem sp2_bind {α β γ δ : Type} {x : Option α} {y : Option β} {f : α → Option γ} {g : β → Option δ} {P : α → β → Prop} {Q : γ → δ → Prop} (h : sp2 x y P) (k : ∀ a b, P a b → sp2 (f a) (g b) Q) : sp2 (x.bind f) (y.bind g) Q := by
  obtain ⟨a, b, h1, h2, h3⟩ := h
  rw [h1, h2]
  exact k a b h3
theorem sp2_bl {α β γ : Type} {x : Option α} {y : Option β} {f : α → Option γ} {P : α → Prop} {Q : γ → β → Prop} (h : sp x P) (k : ∀ a, P a → sp2 (f a) y Q) : sp2 (x.bind f) y Q := by
  obtain ⟨a, h1, h2⟩ := h
  rw [h1]
  exact k a h2
theorem sp2_br {α β δ : Type} {x : Option α} {y : Option β} {g : β → Option δ} {P : β → Prop} {Q : α → δ → Prop} (h : sp y P) (k : ∀ b, P b → sp2 x (g b) Q) : sp2 x (y.bind g) Q := by
  obtain ⟨a, h1, h2⟩ := h
  rw [h1]
  exact k a h2
theorem sp2_lp {α β : Type} {c : Prop} [Decidable c] {A B : Option α} {y : Option β} {Q : α → β → Prop} (hc : c) (h : sp2 A y Q) : sp2 (if c then A else B) y Q := by rw [if_pos hc]; exact h
theorem sp2_ln {α β : Type} {c : Prop} [Decidable c] {A B : Option α} {y : Option β} {Q : α → β → Prop} (hc : ¬ c) (h : sp2 B y Q) : sp2 (if c then A else B) y Q := by rw [if_neg hc]; exact h
theorem sp2_rp {α β : Type} {c : Prop} [Decidable c] {A B : Option β} {x : Option α} {Q : α → β → Prop} (hc : c) (h : sp2 x A Q) : sp2 x (if c then A else B) Q := by rw [if_pos hc]; exact h
theorem sp2_rn {α β : Type} {c : Prop} [Decidable c] {A B : Option β} {x : Option α} {Q : α → β → Prop} (hc : ¬ c) (h : sp2 x B Q) : sp2 x (if c then A else B) Q := by rw [if_neg hc]; exact h
theorem sp2_of {α β : Type} {x : Option α} {y : Option β} {P : α → Prop} {R : β → Prop} (h1 : sp x P) (h2 : sp y R) : sp2 x y (fun a b => P a ∧ R b) := by
  obtain ⟨a, h1, h3⟩ := h1
  obtain ⟨b, h2, h4⟩ := h2
  exact ⟨a, b, h1, h2, h3, h4⟩
/-- two loops, turn by turn -/
theorem sp2_it {σ ε σ' ε' : Type} {b1 : σ → Option (σ ⊕ ε)} {b2 : σ' → Option (σ' ⊕ ε')} {Q : ε → ε' → Prop} (J : σ → σ' → Prop) (μ : σ → Nat) (h : ∀ s t, J s t → (∃ s' t', b1 s = some (.inl s') ∧ b2 t = some (.inl t') ∧ J s' t' ∧ μ s' < μ s) ∨ (∃ e e', b1 s = some (.inr e) ∧ b2 t = some (.inr e') ∧ Q e e')) : ∀ (n : Nat) (s : σ) (t : σ'), J s t → μ s < n → sp2 (mj_it b1 n s) (mj_it b2 n t) Q := by
  intro n
  induction n with
  | zero => intro s t _ h2; exact absurd h2 (Nat.not_lt_zero _)
  | succ n ih =>
    intro s t h1 h2
    rcases h s t h1 with ⟨s', t', e1, e2, h3, h4⟩ | ⟨e, e', e1, e2, h3⟩
    · have k := ih s' t' h3 (by omega)
      simp only [mj_it, e1, e2, Option.bind_some, Sum.elim_inl]
      exact k
    · simp only [mj_it, e1, e2, Option.bind_some, Sum.elim_inr]
      exact sp2_some h3
-- bits
theorem i_bv {x : Int32} (h : 0 ≤ x.toInt) : x.toBitVec.toNat = x.toInt.toNat := by
  have h1 : x = Int32.ofNat x.toInt.toNat := by
    apply Int32.toInt_inj.mp
    rw [Int32.toInt_ofNat_small (by have := i_hi x; omega)]
    omega
  have h2 : x.toBitVec = BitVec.ofNat 32 x.toInt.toNat := congrArg Int32.toBitVec h1
  rw [h2, BitVec.toNat_ofNat, Nat.mod_eq_of_lt (by have := i_hi x; omega)]
theorem i_and15 {x : Int32} (h : 0 ≤ x.toInt) : (x &&& 15).toInt = x.toInt % 16 := by
  have h3 : (x.toBitVec &&& (15 : Int32).toBitVec).toNat = x.toInt.toNat % 16 := by
    rw [BitVec.toNat_and, i_bv h]
    exact Nat.and_two_pow_sub_one_eq_mod x.toInt.toNat 4
  show (x.toBitVec &&& (15 : Int32).toBitVec).toInt = _
  rw [BitVec.toInt_eq_toNat_of_lt (by rw [h3]; omega), h3]
  omega
theorem i_shr {x : Int32} (k : Nat) (hk : k < 31) (s : Int32) (hs : s.toBitVec.smod 32 = BitVec.ofNat 32 k) : (x >>> s).toInt = x.toInt / 2 ^ k := by
  have e1 : (x >>> s).toInt = x.toInt >>> k := by
    show (x.toBitVec.sshiftRight' (s.toBitVec.smod 32)).toInt = _
    rw [hs, BitVec.sshiftRight_eq', BitVec.toInt_sshiftRight, BitVec.toNat_ofNat, Nat.mod_eq_of_lt (by omega)]
    rfl
  rw [e1, Int.shiftRight_eq_div_pow]
  simp
theorem i_shr4 {x : Int32} : (x >>> ((4 : Int32) &&& 31)).toInt = x.toInt / 16 := i_shr 4 (by omega) _ (by decide)
theorem i_shr8 {x : Int32} : (x >>> ((8 : Int32) &&& 31)).toInt = x.toInt / 256 := i_shr 8 (by omega) _ (by decide)
-- digits
def un (k : Nat) : Int := match k with
  | 0 => 100000
  | 1 => 10000
  | 2 => 1000
  | 3 => 100
  | 4 => 10
  | _ => 1
theorem un_i (k : Nat) : (mj_un k).toInt = un k := by
  rcases k with _ | _ | _ | _ | _ | k <;> rfl
theorem un_b (k : Nat) : 1 ≤ un k ∧ un k ≤ 100000 := by
  rcases k with _ | _ | _ | _ | _ | k <;> simp [un]
def dgt (x : Int32) (k : Nat) : Int32 := x / mj_un k - x / mj_un k / 10 * 10
theorem dgt_i {x : Int32} (h : 0 ≤ x.toInt) (k : Nat) : (dgt x k).toInt = x.toInt / un k % 10 := by
  have hb := un_b k
  have e := i_div (a := x) (b := mj_un k) h (by rw [un_i]; omega)
  rw [un_i] at e
  unfold dgt
  have e10 : (10 : Int32).toInt = 10 := rfl
  rw [i_rem (by rw [e]; exact Int.ediv_nonneg h (by omega)) (by rw [e10]; omega), e, e10]
theorem dgt_b {x : Int32} (h : 0 ≤ x.toInt) (k : Nat) : 0 ≤ (dgt x k).toInt ∧ (dgt x k).toInt ≤ 9 := by rw [dgt_i h]; omega
def vr (v : Int32) : Prop := 0 ≤ v.toInt ∧ v.toInt < 6
theorem un_ne (k : Nat) : ¬ mj_un k = 0 := fun z => by
  have := i_eq.mp z
  rw [un_i] at this
  have h2 := un_b k
  have e0 : (0 : Int32).toInt = 0 := rfl
  omega
theorem g_get (F : Nat) (x : Int32) {v : Int32} (hv : vr v) : fnX1_get F x v = some (dgt x v.toNatClampNeg) := by
  obtain ⟨h1, h2⟩ := hv
  have e0 : (0 : Int32).toInt = 0 := rfl
  have e6 : (6 : Int32).toInt = 6 := rfl
  unfold fnX1_get
  rw [if_neg (fun z => by have := i_lt.mp z; omega), if_neg (fun z => by have := i_le.mp z; omega), if_pos (mj_ib_of h1 h2), if_neg (un_ne _)]
  rfl
def pt (x : Int32) (k : Nat) (y : Int32) : Int32 := x + (y - dgt x k) * mj_un k
theorem g_put (F : Nat) (x y : Int32) {v : Int32} (hv : vr v) : fnX1_put F x v y = some (pt x v.toNatClampNeg y) := by
  have hg := g_get F x hv
  obtain ⟨h1, h2⟩ := hv
  have e0 : (0 : Int32).toInt = 0 := rfl
  have e6 : (6 : Int32).toInt = 6 := rfl
  unfold fnX1_put
  rw [if_neg (fun z => by have := i_lt.mp z; omega), if_neg (fun z => by have := i_le.mp z; omega), hg, Option.bind_some, if_pos (mj_ib_of h1 h2)]
  rfl
/-- the reference's row of tens -/
def tens (r : Nat → Int32) : Prop := ∀ k, k < 6 → r k = mj_un k
theorem g_valueIn (F : Nat) {r87 : Nat → Int32} (ht : tens r87) (x : Int32) {v : Int32} (hv : vr v) : fnX11_valueIn F r87 x v = some (dgt x v.toNatClampNeg) := by
  obtain ⟨h1, h2⟩ := hv
  have hk : v.toNatClampNeg < 6 := by rw [i_cl]; omega
  unfold fnX11_valueIn
  rw [if_pos (mj_ib_of h1 h2), ht _ hk, if_neg (un_ne _)]
  rfl
theorem g_with (F : Nat) {r87 : Nat → Int32} (ht : tens r87) (x y : Int32) {v : Int32} (hv : vr v) : fnX11_with F r87 x v y = some (pt x v.toNatClampNeg y) := by
  have hg := g_valueIn F ht x hv
  obtain ⟨h1, h2⟩ := hv
  have hk : v.toNatClampNeg < 6 := by rw [i_cl]; omega
  unfold fnX11_with
  rw [hg, Option.bind_some, if_pos (mj_ib_of h1 h2), ht _ hk]
  rfl
/-- six digits -/
def sx (x : Int32) : Prop := 0 ≤ x.toInt ∧ x.toInt ≤ 999999
theorem pt_i {x y : Int32} (hx : sx x) (hy : 0 ≤ y.toInt ∧ y.toInt ≤ 9) (k : Nat) : (pt x k y).toInt = x.toInt + (y.toInt - x.toInt / un k % 10) * un k ∧ sx (pt x k y) := by
  have hb := un_b k
  have hd := dgt_i hx.1 k
  have hd2 := dgt_b hx.1 k
  obtain ⟨x0, x1⟩ := hx
  have e1 : (y - dgt x k).toInt = y.toInt - x.toInt / un k % 10 := by rw [i_sub (by omega) (by omega), hd]
  have e2 : ((y - dgt x k) * mj_un k).toInt = (y.toInt - x.toInt / un k % 10) * un k := by
    have m1 : (-9) * un k ≤ (y.toInt - x.toInt / un k % 10) * un k := Int.mul_le_mul_of_nonneg_right (by omega) (by omega)
    have m2 : (y.toInt - x.toInt / un k % 10) * un k ≤ 9 * un k := Int.mul_le_mul_of_nonneg_right (by omega) (by omega)
    rw [i_mul (by rw [e1, un_i]; omega) (by rw [e1, un_i]; omega), e1, un_i]
  have m1 : (-9) * un k ≤ (y.toInt - x.toInt / un k % 10) * un k := Int.mul_le_mul_of_nonneg_right (by omega) (by omega)
  have m2 : (y.toInt - x.toInt / un k % 10) * un k ≤ 9 * un k := Int.mul_le_mul_of_nonneg_right (by omega) (by omega)
  have e3 : (pt x k y).toInt = x.toInt + (y.toInt - x.toInt / un k % 10) * un k := by
    unfold pt
    rw [i_add (by rw [e2]; omega) (by rw [e2]; omega), e2]
  refine ⟨e3, ?_⟩
  unfold sx
  rw [e3]
  have h9 : ∀ u : Int, (u = 100000 ∨ u = 10000 ∨ u = 1000 ∨ u = 100 ∨ u = 10 ∨ u = 1) → 0 ≤ x.toInt + (y.toInt - x.toInt / u % 10) * u ∧ x.toInt + (y.toInt - x.toInt / u % 10) * u ≤ 999999 := by
    rintro u (rfl | rfl | rfl | rfl | rfl | rfl) <;> omega
  apply h9
  rcases k with _ | _ | _ | _ | _ | k <;> simp [un]
theorem pt_d {x y : Int32} (hx : sx x) (hy : 0 ≤ y.toInt ∧ y.toInt ≤ 9) (k j : Nat) (hk : k < 6) (hj : j < 6) : (dgt (pt x k y) j).toInt = if j = k then y.toInt else (dgt x j).toInt := by
  obtain ⟨e, h2⟩ := pt_i hx hy k
  rw [dgt_i h2.1, dgt_i hx.1, e]
  obtain ⟨x0, x1⟩ := hx
  have hk' : k = 0 ∨ k = 1 ∨ k = 2 ∨ k = 3 ∨ k = 4 ∨ k = 5 := by omega
  have hj' : j = 0 ∨ j = 1 ∨ j = 2 ∨ j = 3 ∨ j = 4 ∨ j = 5 := by omega
  by_cases hjk : j = k
  · rw [if_pos hjk, hjk]
    rcases hk' with rfl | rfl | rfl | rfl | rfl | rfl <;> simp only [un] <;> omega
  · rw [if_neg hjk]
    rcases hk' with rfl | rfl | rfl | rfl | rfl | rfl <;> rcases hj' with rfl | rfl | rfl | rfl | rfl | rfl <;> first | (exact absurd rfl hjk) | (simp only [un]; omega)
