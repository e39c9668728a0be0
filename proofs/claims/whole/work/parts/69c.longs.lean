/-! ===== longs modulo the prime, indexes: small lemmas ===== -/
theorem l_subm {A B : Int64} (hA : fd A.toInt) (hB : fd B.toInt) : (A + 998244353 - B - (A + 998244353 - B) / 998244353 * 998244353).toInt = (A.toInt - B.toInt) % 998244353 := by
  have eP : (998244353 : Int64).toInt = 998244353 := rfl
  obtain ⟨a0, a1⟩ := hA
  obtain ⟨b0, b1⟩ := hB
  have o3 : (A + 998244353).toInt = A.toInt + 998244353 := by rw [l_add (by rw [eP]; omega) (by rw [eP]; omega), eP]
  have o4 : (A + 998244353 - B).toInt = A.toInt + 998244353 - B.toInt := by rw [l_sub (by rw [o3]; omega) (by rw [o3]; omega), o3]
  have h0 : 0 ≤ (A + 998244353 - B).toInt := by rw [o4]; omega
  rw [l_rem h0 (by rw [eP]; decide), o4, eP]
  clear o3 o4 h0 eP
  omega
theorem l_inc1 {A : Int64} (hA : A.toInt = 0) : (A + 1 - (A + 1) / 998244353 * 998244353).toInt = 1 := by
  have eP : (998244353 : Int64).toInt = 998244353 := rfl
  have e1 : (1 : Int64).toInt = 1 := rfl
  have o3 : (A + 1).toInt = 1 := by rw [l_add (by rw [hA, e1]; decide) (by rw [hA, e1]; decide), hA, e1]; rfl
  rw [l_rem (by rw [o3]; decide) (by rw [eP]; decide), o3, eP]
  rfl
theorem l_mulm {A B : Int64} (hA : fd A.toInt) (hB : fd B.toInt) : (A * B - A * B / 998244353 * 998244353).toInt = A.toInt * B.toInt % 998244353 := by
  have eP : (998244353 : Int64).toInt = 998244353 := rfl
  obtain ⟨m0, m1⟩ := fd_mul hA hB
  have e9 : (A * B).toInt = A.toInt * B.toInt := l_mul (by omega) (by omega)
  rw [l_rem (by rw [e9]; exact m0) (by rw [eP]; decide), e9, eP]
theorem l_elim {A B C : Int64} (hA : fd A.toInt) (hB : fd B.toInt) (hC : fd C.toInt) : fd (A + (998244353 - C) * B - (A + (998244353 - C) * B) / 998244353 * 998244353).toInt ∧ cg (A + (998244353 - C) * B - (A + (998244353 - C) * B) / 998244353 * 998244353).toInt (A.toInt - C.toInt * B.toInt) := by
  have eP : (998244353 : Int64).toInt = 998244353 := rfl
  obtain ⟨a0, a1⟩ := hA
  obtain ⟨b0, b1⟩ := hB
  obtain ⟨c0, c1⟩ := hC
  have w1 : ((998244353 : Int64) - C).toInt = 998244353 - C.toInt := by rw [l_sub (by rw [eP]; omega) (by rw [eP]; omega), eP]
  have w2 : 0 ≤ (998244353 - C.toInt) * B.toInt ∧ (998244353 - C.toInt) * B.toInt ≤ 998244353 * B.toInt := ⟨Int.mul_nonneg (by omega) b0, Int.mul_le_mul_of_nonneg_right (by omega) b0⟩
  obtain ⟨w20, w21⟩ := w2
  have w3 : (((998244353 : Int64) - C) * B).toInt = (998244353 - C.toInt) * B.toInt := by rw [l_mul (by rw [w1]; omega) (by rw [w1]; omega), w1]
  have w4 : (A + ((998244353 : Int64) - C) * B).toInt = A.toInt + (998244353 - C.toInt) * B.toInt := by rw [l_add (by rw [w3]; omega) (by rw [w3]; omega), w3]
  have h0 : 0 ≤ (A + ((998244353 : Int64) - C) * B).toInt := by rw [w4]; omega
  rw [l_rem h0 (by rw [eP]; decide), w4, eP]
  clear w1 w3 w4 h0 eP
  refine ⟨fd_md _, cg_tr (cg_md _) ?_⟩
  rw [Int.sub_mul]
  generalize C.toInt * B.toInt = W
  unfold cg
  omega
theorem ix201 {x y : Int32} {a k : Nat} (hx : x.toInt = (a : Nat)) (hy : y.toInt = (k : Nat)) (ha : a < 200) (hk : k < 201) : (201 * x + y).toNatClampNeg = 201 * a + k ∧ mj_ib (201 * x + y) 40200 = true := by
  have e201 : (201 : Int32).toInt = 201 := rfl
  have mc : (201 * x).toInt = ((201 * a : Nat) : Int) := by rw [i_mul (by rw [e201, hx]; omega) (by rw [e201, hx]; omega), e201, hx]; omega
  have dc : (201 * x + y).toInt = ((201 * a + k : Nat) : Int) := by rw [i_add (by rw [mc, hy]; omega) (by rw [mc, hy]; omega), mc, hy]; omega
  exact ⟨by rw [i_cl, dc]; rfl, mj_ib_of (by rw [dc]; omega) (by rw [dc]; omega)⟩
theorem ix10 {x y : Int32} {a k : Nat} (hx : x.toInt = (a : Nat)) (hy : y.toInt = (k : Nat)) (ha : a < 200) (hk : k < 10) : (10 * x + y).toNatClampNeg = 10 * a + k ∧ mj_ib (10 * x + y) 2000 = true := by
  have e10 : (10 : Int32).toInt = 10 := rfl
  have mc : (10 * x).toInt = ((10 * a : Nat) : Int) := by rw [i_mul (by rw [e10, hx]; omega) (by rw [e10, hx]; omega), e10, hx]; omega
  have dc : (10 * x + y).toInt = ((10 * a + k : Nat) : Int) := by rw [i_add (by rw [mc, hy]; omega) (by rw [mc, hy]; omega), mc, hy]; omega
  exact ⟨by rw [i_cl, dc]; rfl, mj_ib_of (by rw [dc]; omega) (by rw [dc]; omega)⟩
