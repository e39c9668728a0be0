/-! ===== the field: congruences; the class's and the reference's arithmetic ===== -/
def cg (a b : Int) : Prop := a % 998244353 = b % 998244353
theorem cg_rf (a : Int) : cg a a := rfl
theorem cg_sy {a b : Int} (h : cg a b) : cg b a := Eq.symm h
theorem cg_tr {a b c : Int} (h1 : cg a b) (h2 : cg b c) : cg a c := Eq.trans h1 h2
theorem cg_md (a : Int) : cg (a % 998244353) a := by unfold cg; omega
theorem cg_add {a b c d : Int} (h1 : cg a b) (h2 : cg c d) : cg (a + c) (b + d) := by unfold cg at *; omega
theorem cg_sub {a b c d : Int} (h1 : cg a b) (h2 : cg c d) : cg (a - c) (b - d) := by unfold cg at *; omega
theorem cg_iff {a b : Int} : cg a b ↔ ∃ k : Int, a = b + 998244353 * k := by
  unfold cg
  constructor
  · intro h
    exact ⟨a / 998244353 - b / 998244353, by omega⟩
  · rintro ⟨k, rfl⟩
    omega
theorem cg_mul {a b c d : Int} (h1 : cg a b) (h2 : cg c d) : cg (a * c) (b * d) := by
  obtain ⟨k, rfl⟩ := cg_iff.mp h1
  obtain ⟨l, rfl⟩ := cg_iff.mp h2
  refine cg_iff.mpr ⟨b * l + k * d + 998244353 * k * l, ?_⟩
  grind
theorem cg_pow {a b : Int} (h : cg a b) (n : Nat) : cg (a ^ n) (b ^ n) := by
  induction n with
  | zero => rw [Int.pow_zero, Int.pow_zero]; exact cg_rf _
  | succ n ih =>
    rw [Int.pow_succ, Int.pow_succ]
    exact cg_mul ih h
theorem cg_eq {a b : Int} (h : cg a b) (a0 : 0 ≤ a) (a1 : a < 998244353) (b0 : 0 ≤ b) (b1 : b < 998244353) : a = b := by unfold cg at h; omega
/-- a number of the field -/
def fd (a : Int) : Prop := 0 ≤ a ∧ a < 998244353
theorem fd_md (a : Int) : fd (a % 998244353) := ⟨by omega, by omega⟩
def pe : Nat := 998244351
/-- the inverse, as both programs compute it -/
def iv (a : Int) : Int := (a ^ pe) % 998244353
theorem iv_fd (a : Int) : fd (iv a) := fd_md _
theorem iv_cg {a b : Int} (h : cg a b) : iv a = iv b := cg_pow h pe
theorem iv_mul {a : Int} (h : ¬ cg a 0) : cg (a * iv a) 1 := by
  have hn : ∃ n : Nat, cg a (n : Int) ∧ ¬ (998244353 : Nat) ∣ n := by
    refine ⟨(a % 998244353).toNat, ?_, ?_⟩
    · have : ((a % 998244353).toNat : Int) = a % 998244353 := Int.toNat_of_nonneg (by omega)
      rw [this]; exact cg_sy (cg_md a)
    · intro hd
      apply h
      unfold cg
      omega
  obtain ⟨n, h1, h2⟩ := hn
  have h3 := fm_one pr_P n h2
  have e : (998244353 : Nat) - 1 = pe + 1 := rfl
  rw [e] at h3
  have h4 : cg (a * a ^ pe) ((n : Int) ^ (pe + 1)) := by
    have e5 : (n : Int) ^ (pe + 1) = n * (n : Int) ^ pe := by rw [Int.pow_succ, Int.mul_comm]
    rw [e5]
    exact cg_mul h1 (cg_pow h1 pe)
  have h5 : cg ((n : Int) ^ (pe + 1)) 1 := by
    have e6 : ((n ^ (pe + 1) : Nat) : Int) = (n : Int) ^ (pe + 1) := by push_cast; rfl
    unfold cg
    rw [← e6]
    omega
  exact cg_tr (cg_mul (cg_rf a) (cg_md _)) (cg_tr h4 h5)
theorem cg_can {a b c : Int} (h : ¬ cg c 0) (h2 : cg (a * c) (b * c)) : cg a b := by
  have h3 := cg_mul h2 (cg_rf (iv c))
  have h4 := iv_mul h
  rw [Int.mul_assoc, Int.mul_assoc] at h3
  have h5 := cg_tr (cg_sy (cg_mul (cg_rf a) h4)) (cg_tr h3 (cg_mul (cg_rf b) h4))
  rw [Int.mul_one, Int.mul_one] at h5
  exact h5
theorem cg_zero {a b : Int} (h : cg (a * b) 0) : cg a 0 ∨ cg b 0 := by
  by_cases hb : cg b 0
  · exact Or.inr hb
  · refine Or.inl (cg_can hb ?_)
    rw [Int.zero_mul]
    exact h
-- the class's
theorem s3_plus (F : Nat) {a b : Int32} (ha : fd a.toInt) (hb : fd b.toInt) : sp (fnX3_plus F a b) (fun c => c.toInt = (a.toInt + b.toInt) % 998244353) := by
  obtain ⟨a0, a1⟩ := ha
  obtain ⟨b0, b1⟩ := hb
  have e := i_add (a := a) (b := b) (by omega) (by omega)
  have eP : (998244353 : Int32).toInt = 998244353 := rfl
  unfold fnX3_plus
  refine sp_ite (fun h => sp_some ?_) (fun h => sp_some ?_)
  · have := i_lt.mp h; rw [e, eP] at this; rw [e]; omega
  · have h2 : ¬ (a + b).toInt < (998244353 : Int32).toInt := fun z => h (i_lt.mpr z)
    rw [e, eP] at h2
    rw [i_sub (by rw [e, eP]; omega) (by rw [e, eP]; omega), e, eP]; omega
theorem s3_less (F : Nat) {a b : Int32} (ha : fd a.toInt) (hb : fd b.toInt) : sp (fnX3_less F a b) (fun c => c.toInt = (a.toInt - b.toInt) % 998244353) := by
  obtain ⟨a0, a1⟩ := ha
  obtain ⟨b0, b1⟩ := hb
  have e := i_sub (a := a) (b := b) (by omega) (by omega)
  have eP : (998244353 : Int32).toInt = 998244353 := rfl
  unfold fnX3_less
  refine sp_ite (fun h => sp_some ?_) (fun h => sp_some ?_)
  · have := i_lt.mp h
    rw [i_add (by rw [e, eP]; omega) (by rw [e, eP]; omega), e, eP]; omega
  · have h2 : ¬ a.toInt < b.toInt := fun z => h (i_lt.mpr z)
    rw [e]; omega
theorem fd_mul {a b : Int} (ha : fd a) (hb : fd b) : 0 ≤ a * b ∧ a * b < 998244353 * 998244353 := by
  refine ⟨Int.mul_nonneg ha.1 hb.1, ?_⟩
  have h1 : a * b ≤ 998244352 * b := Int.mul_le_mul_of_nonneg_right (by have := ha.2; omega) hb.1
  have h2 := hb.2
  omega
theorem s3_times (F : Nat) {a b : Int32} (ha : fd a.toInt) (hb : fd b.toInt) : sp (fnX3_times F a b) (fun c => c.toInt = (a.toInt * b.toInt) % 998244353) := by
  obtain ⟨m0, m1⟩ := fd_mul ha hb
  have eP : (998244353 : Int64).toInt = 998244353 := rfl
  have e : (a.toInt64 * b.toInt64).toInt = a.toInt * b.toInt := by
    rw [l_mul (by rw [i_l, i_l]; omega) (by rw [i_l, i_l]; omega), i_l, i_l]
  have e2 := l_rem (a := a.toInt64 * b.toInt64) (b := 998244353) (by rw [e]; exact m0) (by rw [eP]; omega)
  rw [e, eP] at e2
  unfold fnX3_times
  refine sp_some ?_
  rw [l_i (by rw [e2]; omega) (by rw [e2]; omega), e2]
theorem s3_sixtieth (F : Nat) {a : Int32} (ha : fd a.toInt) : sp (fnX3_sixtieth F a) (fun c => c.toInt = (a.toInt * 715408453) % 998244353) := by
  unfold fnX3_sixtieth
  exact sp_bind (s3_times F ha ⟨by decide, by decide⟩) (fun c hc => sp_some hc)
theorem pw_half (x : Int) (n : Nat) : cg (((x * x) % 998244353) ^ (n / 2)) (x ^ (2 * (n / 2))) := by
  refine cg_tr (cg_pow (cg_md _) _) ?_
  rw [Int.pow_mul]
  have : x ^ 2 = x * x := by rw [Int.pow_succ, Int.pow_succ, Int.pow_zero, Int.one_mul]
  rw [this]
  exact cg_rf _
theorem pw_odd (y x : Int) (n : Nat) (h : n % 2 = 1) : cg (((y * x) % 998244353) * (((x * x) % 998244353) ^ (n / 2))) (y * x ^ n) := by
  have e : n = 2 * (n / 2) + 1 := by omega
  refine cg_tr (cg_mul (cg_md _) (pw_half x n)) ?_
  have e2 : x ^ (2 * (n / 2) + 1) = x ^ (2 * (n / 2)) * x := Int.pow_succ _ _
  rw [← e] at e2
  rw [e2, Int.mul_assoc, Int.mul_comm x]
  exact cg_rf _
theorem pw_even (y x : Int) (n : Nat) (h : n % 2 = 0) : cg (y * (((x * x) % 998244353) ^ (n / 2))) (y * x ^ n) := by
  have e : n = 2 * (n / 2) := by omega
  refine cg_tr (cg_mul (cg_rf y) (pw_half x n)) ?_
  rw [← e]
  exact cg_rf _
