/-! ===== the inverse, in both programs ===== -/
theorem i_and1 {x : Int32} (h : 0 ≤ x.toInt) : (x &&& 1).toInt = x.toInt % 2 := by
  have e : (x &&& 1).toInt = ((x.toInt.toNat &&& 1 : Nat) : Int) := by
    have h1 : x = Int32.ofNat x.toInt.toNat := by
      apply Int32.toInt_inj.mp
      rw [Int32.toInt_ofNat_small (by have := i_hi x; omega)]
      omega
    have h2 : x.toBitVec = BitVec.ofNat 32 x.toInt.toNat := congrArg Int32.toBitVec h1
    show (x.toBitVec &&& (1 : Int32).toBitVec).toInt = _
    have h3 : (x.toBitVec &&& (1 : Int32).toBitVec).toNat = x.toInt.toNat &&& 1 := by
      rw [h2, BitVec.toNat_and, BitVec.toNat_ofNat, Nat.mod_eq_of_lt (by have := i_hi x; omega)]
      rfl
    have h4 : (x.toInt.toNat &&& 1) ≤ 1 := Nat.and_le_right
    rw [BitVec.toInt_eq_toNat_of_lt (by rw [h3]; omega), h3]
  rw [e, Nat.and_one_is_mod]
  omega
theorem i_shr1 {x : Int32} (h : 0 ≤ x.toInt) : (x >>> ((1 : Int32) &&& 31)).toInt = x.toInt / 2 := by
  have e0 : ((1 : Int32) &&& 31) = 1 := by decide
  rw [e0]
  have e1 : (x >>> (1 : Int32)).toInt = x.toInt >>> (1 : Nat) := by
    show (x.toBitVec.sshiftRight' ((1 : Int32).toBitVec.smod 32)).toInt = _
    have e2 : (1 : Int32).toBitVec.smod 32 = 1#32 := by decide
    rw [e2, BitVec.sshiftRight_eq', BitVec.toInt_sshiftRight]
    rfl
  rw [e1, Int.shiftRight_eq_div_pow]
  rfl
theorem s3_inverse (F : Nat) (hF : 64 ≤ F) {a : Int32} (ha : fd a.toInt) : sp (fnX3_inverse F a) (fun c => c.toInt = iv a.toInt) := by
  unfold fnX3_inverse
  refine sp_bind (sp_it (J := fun s : Int32 × Int32 × Int32 => fd s.1.toInt ∧ fd s.2.1.toInt ∧ 0 ≤ s.2.2.toInt ∧ cg (s.2.1.toInt * s.1.toInt ^ s.2.2.toInt.toNat) (a.toInt ^ pe)) (Q := fun c => fd c.toInt ∧ cg c.toInt (a.toInt ^ pe)) (fun s => if s.2.2.toInt = 0 then 0 else Nat.log2 s.2.2.toInt.toNat + 1) ?_ F (a, 1, 998244351) ?_ ?_) (fun c hc => sp_some ?_)
  · rintro ⟨x1, x2, x3⟩ ⟨h1, h2, h3, h4⟩
    refine sp_u2 (sp_u2 ?_)
    dsimp only at h1 h2 h3 h4
    have z0 : (0 : Int32).toInt = 0 := rfl
    unfold bdX3_inverse_7
    refine sp_ite (fun h => sp_some ?_) (fun h => ?_)
    · have h5 := i_le.mp h
      have h6 : x3.toInt.toNat = 0 := by omega
      rw [h6, Int.pow_zero, Int.mul_one] at h4
      exact ⟨h2, h4⟩
    · have h5 : ¬ x3.toInt ≤ 0 := fun z => h (i_le.mpr (by rw [z0]; exact z))
      have hs := i_shr1 h3
      have hlog : ∀ y : Int32, y.toInt = x3.toInt / 2 → (if y.toInt = 0 then 0 else Nat.log2 y.toInt.toNat + 1) < (if x3.toInt = 0 then 0 else Nat.log2 x3.toInt.toNat + 1) := by
        intro y hy
        rw [if_neg (by omega : ¬ x3.toInt = 0)]
        split
        · omega
        · have e : y.toInt.toNat = x3.toInt.toNat / 2 := by omega
          have e2 : Nat.log2 x3.toInt.toNat = Nat.log2 (x3.toInt.toNat / 2) + 1 := by
            rw [Nat.log2_def x3.toInt.toNat, if_pos (by omega)]
          rw [e, e2]
          omega
      have hn : ∀ y : Int32, y.toInt = x3.toInt / 2 → y.toInt.toNat = x3.toInt.toNat / 2 := fun y hy => by omega
      refine sp_ite (fun hb => ?_) (fun hb => ?_)
      · have hodd : x3.toInt.toNat % 2 = 1 := by
          have := i_eq.mp hb
          rw [i_and1 h3] at this
          have e1 : (1 : Int32).toInt = 1 := rfl
          omega
        refine sp_bind (s3_times F h2 h1) (fun o4 ho4 => ?_)
        refine sp_bind (s3_times F h1 h1) (fun o5 ho5 => sp_some ?_)
        refine ⟨⟨by rw [ho5]; exact fd_md _, by rw [ho4]; exact fd_md _, by dsimp only; omega, ?_⟩, hlog _ hs⟩
        dsimp only
        rw [hn _ hs, ho4, ho5]
        exact cg_tr (pw_odd _ _ _ hodd) h4
      · have hev : x3.toInt.toNat % 2 = 0 := by
          have h7 : ¬ (x3 &&& 1).toInt = (1 : Int32).toInt := fun z => hb (i_eq.mpr z)
          rw [i_and1 h3] at h7
          have e1 : (1 : Int32).toInt = 1 := rfl
          omega
        refine sp_bind (s3_times F h1 h1) (fun o3 ho3 => sp_some ?_)
        refine ⟨⟨by rw [ho3]; exact fd_md _, h2, by dsimp only; omega, ?_⟩, hlog _ hs⟩
        dsimp only
        rw [hn _ hs, ho3]
        exact cg_tr (pw_even _ _ _ hev) h4
  · refine ⟨ha, (show fd (1 : Int32).toInt from ⟨by decide, by decide⟩), (show 0 ≤ (998244351 : Int32).toInt from by decide), ?_⟩
    show cg ((1 : Int) * a.toInt ^ pe) (a.toInt ^ pe)
    rw [Int.one_mul]
    exact cg_rf _
  · have : (if (998244351 : Int32).toInt = 0 then 0 else Nat.log2 (998244351 : Int32).toInt.toNat + 1) = 30 := by decide +kernel
    show (if (998244351 : Int32).toInt = 0 then 0 else Nat.log2 (998244351 : Int32).toInt.toNat + 1) < F
    rw [this]
    omega
  · have h9 := hc.2
    have h8 := hc.1
    show c.toInt = (a.toInt ^ pe) % 998244353
    unfold cg at h9
    have := h8.1
    have := h8.2
    omega
theorem s11_power (F : Nat) (hF : 64 ≤ F) {v n : Int64} (hv : 0 ≤ v.toInt) (hn : 0 ≤ n.toInt) : sp (fnX11_power F v n) (fun c => c.toInt = (v.toInt ^ n.toInt.toNat) % 998244353) := by
  have eP : (998244353 : Int64).toInt = 998244353 := rfl
  have e2 : (2 : Int64).toInt = 2 := rfl
  have e1 : (1 : Int64).toInt = 1 := rfl
  have e0 : (0 : Int64).toInt = 0 := rfl
  have mm : ∀ x y : Int64, fd x.toInt → fd y.toInt → ((x * y) - (x * y) / (998244353 : Int64) * (998244353 : Int64)).toInt = (x.toInt * y.toInt) % 998244353 := by
    intro x y hx hy
    obtain ⟨m0, m1⟩ := fd_mul hx hy
    have e := l_mul (a := x) (b := y) (by omega) (by omega)
    rw [l_rem (by rw [e]; exact m0) (by rw [eP]; omega), e, eP]
  unfold fnX11_power
  refine sp_bind (sp_it (J := fun s : Int64 × Int64 × Int64 => fd s.1.toInt ∧ fd s.2.1.toInt ∧ 0 ≤ s.2.2.toInt ∧ cg (s.1.toInt * s.2.1.toInt ^ s.2.2.toInt.toNat) (v.toInt ^ n.toInt.toNat)) (Q := fun c => fd c.toInt ∧ cg c.toInt (v.toInt ^ n.toInt.toNat)) (fun s => if s.2.2.toInt = 0 then 0 else Nat.log2 s.2.2.toInt.toNat + 1) ?_ F _ ?_ ?_) (fun c hc => sp_some ?_)
  · rintro ⟨x4, x6, x8⟩ ⟨h1, h2, h3, h4⟩
    refine sp_u2 (sp_u2 ?_)
    dsimp only at h1 h2 h3 h4
    unfold bdX11_power_13
    refine sp_ite (fun h => sp_some ?_) (fun h => ?_)
    · have h5 := l_le.mp h
      rw [e0] at h5
      have h6 : x8.toInt.toNat = 0 := by omega
      rw [h6, Int.pow_zero, Int.mul_one] at h4
      exact ⟨h1, h4⟩
    · have h5 : ¬ x8.toInt ≤ 0 := fun z => h (l_le.mpr (by rw [e0]; exact z))
      have hs := l_div (a := x8) (b := 2) h3 (by rw [e2]; omega)
      rw [e2] at hs
      have hr := l_rem (a := x8) (b := 2) h3 (by rw [e2]; omega)
      rw [e2] at hr
      have hlog : (if (x8 / 2).toInt = 0 then 0 else Nat.log2 (x8 / 2).toInt.toNat + 1) < (if x8.toInt = 0 then 0 else Nat.log2 x8.toInt.toNat + 1) := by
        rw [if_neg (by omega : ¬ x8.toInt = 0)]
        split
        · omega
        · have e : (x8 / 2).toInt.toNat = x8.toInt.toNat / 2 := by omega
          have e2 : Nat.log2 x8.toInt.toNat = Nat.log2 (x8.toInt.toNat / 2) + 1 := by
            rw [Nat.log2_def x8.toInt.toNat, if_pos (by omega)]
          rw [e, e2]
          omega
      have hn2 : (x8 / 2).toInt.toNat = x8.toInt.toNat / 2 := by omega
      refine sp_ite (fun hb => sp_some ?_) (fun hb => sp_some ?_)
      · have hodd : x8.toInt.toNat % 2 = 1 := by
          have := l_eq.mp hb
          rw [hr, e1] at this
          omega
        refine ⟨⟨by dsimp only; rw [mm _ _ h1 h2]; exact fd_md _, by dsimp only; rw [mm _ _ h2 h2]; exact fd_md _, by dsimp only; omega, ?_⟩, hlog⟩
        dsimp only
        rw [hn2, mm _ _ h1 h2, mm _ _ h2 h2]
        exact cg_tr (pw_odd _ _ _ hodd) h4
      · have hev : x8.toInt.toNat % 2 = 0 := by
          have h7 : ¬ (x8 - x8 / 2 * 2).toInt = (1 : Int64).toInt := fun z => hb (l_eq.mpr z)
          rw [hr, e1] at h7
          omega
        refine ⟨⟨h1, by dsimp only; rw [mm _ _ h2 h2]; exact fd_md _, by dsimp only; omega, ?_⟩, hlog⟩
        dsimp only
        rw [hn2, mm _ _ h2 h2]
        exact cg_tr (pw_even _ _ _ hev) h4
  · have hb := l_rem (a := v) (b := 998244353) hv (by rw [eP]; omega)
    rw [eP] at hb
    refine ⟨(show fd (1 : Int64).toInt from ⟨by decide, by decide⟩), by dsimp only; rw [hb]; exact fd_md _, hn, ?_⟩
    dsimp only
    rw [hb, e1, Int.one_mul]
    exact cg_pow (cg_md _) _
  · dsimp only
    split
    · omega
    · have h9 : Nat.log2 n.toInt.toNat < 63 := (Nat.log2_lt (by omega)).mpr (by have := l_hi n; omega)
      omega
  · have h9 := hc.2
    have h8 := hc.1
    unfold cg at h9
    have := h8.1
    have := h8.2
    omega
theorem s11_inverse (F : Nat) (hF : 64 ≤ F) {v : Int64} (hv : 0 ≤ v.toInt) : sp (fnX11_inverse F v) (fun c => c.toInt = iv v.toInt) := by
  unfold fnX11_inverse
  refine sp_bind (s11_power F hF hv (by decide)) (fun c hc => sp_some ?_)
  rw [hc]
  rfl
