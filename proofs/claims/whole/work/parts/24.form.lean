/-! ===== fractions: Euclid against the least denominator ===== -/
def okF (v e : Int) : Prop := 1 ≤ e ∧ e ≤ 20000 ∧ (e * v) % 998244353 ≤ 20000
def isF (v n d : Int) : Prop := okF v d ∧ n = (d * v) % 998244353 ∧ ∀ e, okF v e → d ≤ e
def noF (v : Int) : Prop := ∀ e, ¬ okF v e
/-- what both programs answer -/
def isForm (v form c : Int) : Prop := (form = 0 ∧ c = v) ∨ (form ≠ 0 ∧ ((noF v ∧ c = -1) ∨ ∃ n d, isF v n d ∧ c = if form = 1 then n else d))
theorem isForm_one {v form c c' : Int} (h : isForm v form c) (h' : isForm v form c') : c = c' := by
  rcases h with ⟨h1, h2⟩ | ⟨h1, h2⟩ <;> rcases h' with ⟨h3, h4⟩ | ⟨h3, h4⟩
  · omega
  · exact absurd h1 h3
  · exact absurd h3 h1
  · rcases h2 with ⟨h5, h6⟩ | ⟨n, d, h5, h6⟩ <;> rcases h4 with ⟨h7, h8⟩ | ⟨n', d', h7, h8⟩
    · omega
    · exact absurd h7.1 (h5 d')
    · exact absurd h5.1 (h7 d)
    · have a1 := h5.2.2 d' h7.1
      have a2 := h7.2.2 d h5.1
      have a3 : d = d' := by omega
      subst a3
      rw [h6, h8, h5.2.1, h7.2.1]
theorem pr_int {a b : Int} (h : cg (a * b) 0) : cg a 0 ∨ cg b 0 := cg_zero h
/-- t divides e, where t e' = e P -/
theorem dv_P {t e k : Int} (ht : 0 < t) (ht2 : t < 998244353) (he : 0 < e) (h : t * k = e * 998244353) : t ≤ e := by
  have h1 : cg (t * k) 0 := by rw [h]; unfold cg; omega
  rcases cg_zero h1 with h2 | h2
  · unfold cg at h2; omega
  · obtain ⟨k', hk'⟩ := cg_iff.mp h2
    have h3 : t * k' = e := by
      have h4 : 998244353 * (t * k') = 998244353 * e := by
        have : t * k = 998244353 * (t * k') := by rw [hk']; grind
        omega
      omega
    have h5 : 0 < k' := by
      rcases Int.lt_or_le 0 k' with h6 | h6
      · exact h6
      · have : t * k' ≤ 0 := Int.mul_nonpos_of_nonneg_of_nonpos (by omega) h6
        omega
    have h6 : t * 1 ≤ t * k' := Int.mul_le_mul_of_nonneg_left (by omega) (by omega)
    omega
/-- what stays in Euclid's division -/
def eu (v r0 r1 t0 t1 : Int) : Prop := 0 ≤ r1 ∧ r1 < r0 ∧ 20000 < r0 ∧ r0 ≤ 998244353 ∧ cg (t0 * v) r0 ∧ cg (t1 * v) r1 ∧ ((0 < t1 ∧ t0 ≤ 0 ∧ r0 * t1 - r1 * t0 = 998244353 ∧ -t1 ≤ t0) ∨ (t1 < 0 ∧ 0 < t0 ∧ r1 * t0 - r0 * t1 = 998244353 ∧ r0 < 998244353 ∧ t0 ≤ -t1))
theorem eu_small {v r0 r1 t0 t1 : Int} (h : eu v r0 r1 t0 t1) : -49911 ≤ t1 ∧ t1 ≤ 49911 ∧ -49911 ≤ t0 ∧ t0 ≤ 49911 := by
  obtain ⟨h1, h2, h3, h4, h5, h6, h7⟩ := h
  rcases h7 with ⟨a, b, c, d⟩ | ⟨a, b, c, d, e⟩
  · have e1 := Int.mul_nonpos_of_nonneg_of_nonpos h1 b
    have e2 : 20001 * t1 ≤ r0 * t1 := Int.mul_le_mul_of_nonneg_right (by omega) (by omega)
    omega
  · have e1 : 0 ≤ r1 * t0 := Int.mul_nonneg h1 (by omega)
    have e2 : 20001 * (-t1) ≤ r0 * (-t1) := Int.mul_le_mul_of_nonneg_right (by omega) (by omega)
    have e3 : r0 * (-t1) = -(r0 * t1) := Int.mul_neg _ _
    omega
theorem eu_step {v r0 r1 t0 t1 : Int} (h : eu v r0 r1 t0 t1) (hr : 20000 < r1) : eu v r1 (r0 - r0 / r1 * r1) t1 (t0 - r0 / r1 * t1) := by
  obtain ⟨h1, h2, h3, h4, h5, h6, h7⟩ := h
  have q1 := Int.emod_def r0 r1
  have q2 := Int.emod_nonneg r0 (show r1 ≠ 0 by omega)
  have q3 := Int.emod_lt_of_pos r0 (show 0 < r1 by omega)
  have q4 : r0 / r1 * r1 = r1 * (r0 / r1) := Int.mul_comm _ _
  have q5 : 1 ≤ r0 / r1 := by
    rcases Int.lt_or_le 0 (r0 / r1) with z | z
    · omega
    · have := Int.mul_nonpos_of_nonneg_of_nonpos (show 0 ≤ r1 by omega) z
      omega
  generalize r0 / r1 = q at *
  refine ⟨by omega, by omega, by omega, by omega, h6, ?_, ?_⟩
  · have a1 := cg_sub h5 (cg_mul (cg_rf q) h6)
    have a2 : t0 * v - q * (t1 * v) = (t0 - q * t1) * v := by grind
    rw [a2] at a1
    exact a1
  · rcases h7 with ⟨a, b, c, d⟩ | ⟨a, b, c, d, e⟩
    · refine Or.inr ⟨?_, a, ?_, by omega, ?_⟩
      · have : 1 * t1 ≤ q * t1 := Int.mul_le_mul_of_nonneg_right (by omega) (by omega)
        omega
      · rw [← c]; grind
      · have : 1 * t1 ≤ q * t1 := Int.mul_le_mul_of_nonneg_right (by omega) (by omega)
        omega
    · have m1 : 1 * (-t1) ≤ q * (-t1) := Int.mul_le_mul_of_nonneg_right (by omega) (by omega)
      have m2 : q * (-t1) = -(q * t1) := Int.mul_neg _ _
      refine Or.inl ⟨by omega, by omega, ?_, by omega⟩
      rw [← c]; grind
theorem eu_half {r0 r1 : Int} (h1 : 0 < r1) (h2 : r1 < r0) : 2 * (r0 - r0 / r1 * r1) ≤ r0 := by
  have q1 := Int.emod_def r0 r1
  have q3 := Int.emod_lt_of_pos r0 h1
  have q4 : r0 / r1 * r1 = r1 * (r0 / r1) := Int.mul_comm _ _
  have q5 : 1 ≤ r0 / r1 := by
    rcases Int.lt_or_le 0 (r0 / r1) with z | z
    · omega
    · have := Int.mul_nonpos_of_nonneg_of_nonpos (show 0 ≤ r1 by omega) z
      omega
  have q6 : r1 * 1 ≤ r1 * (r0 / r1) := Int.mul_le_mul_of_nonneg_left q5 (by omega)
  omega
theorem eu_pos {v r0 r1 t0 t1 e : Int} (h : eu v r0 r1 t0 t1) (hr : r1 ≤ 20000) (ht : 0 < t1) (he : okF v e) : t1 ≤ e := by
  obtain ⟨h1, h2, h3, h4, h5, h6, h7⟩ := h
  obtain ⟨e1, e2, e3⟩ := he
  rcases h7 with ⟨a, b, c, -⟩ | ⟨a, b, c, d, -⟩
  · generalize hn : (e * v) % 998244353 = n at e3
    have n0 : 0 ≤ n := by omega
    have hnc : cg n (e * v) := by rw [← hn]; exact cg_md _
    have q1 : 0 ≤ -(r1 * t0) := by have := Int.mul_nonpos_of_nonneg_of_nonpos h1 b; omega
    have q2 : 20001 * t1 ≤ r0 * t1 := Int.mul_le_mul_of_nonneg_right (by omega) (by omega)
    have q3 : n * t1 ≤ 20000 * t1 := Int.mul_le_mul_of_nonneg_right e3 (by omega)
    have q4 : r1 * e ≤ 20000 * e := Int.mul_le_mul_of_nonneg_right hr (by omega)
    have q5 : 0 ≤ n * t1 := Int.mul_nonneg n0 (by omega)
    have q6 : 0 ≤ r1 * e := Int.mul_nonneg h1 (by omega)
    have q7 : cg (n * t1) (r1 * e) := by
      refine cg_tr (cg_mul hnc (cg_rf t1)) (cg_sy (cg_tr (cg_mul (cg_sy h6) (cg_rf e)) ?_))
      have : t1 * v * e = e * v * t1 := by grind
      rw [this]; exact cg_rf _
    have q8 : n * t1 = r1 * e := cg_eq q7 q5 (by omega) q6 (by omega)
    refine dv_P (k := e * r0 - n * t0) ht (by omega) (by omega) ?_
    have : t1 * (e * r0 - n * t0) = e * (r0 * t1) - (n * t1) * t0 := by grind
    rw [this, q8]
    have : e * (r0 * t1) - r1 * e * t0 = e * (r0 * t1 - r1 * t0) := by grind
    rw [this, c]
  · omega
theorem eu_neg {v r0 r1 t0 t1 : Int} (h : eu v r0 r1 t0 t1) (hr : r1 ≤ 20000) (ht : t1 < 0) : noF v := by
  intro e he
  obtain ⟨h1, h2, h3, h4, h5, h6, h7⟩ := h
  obtain ⟨e1, e2, e3⟩ := he
  rcases h7 with ⟨a, b, c, -⟩ | ⟨a, b, c, d, -⟩
  · omega
  · generalize hn : (e * v) % 998244353 = n at e3
    have n0 : 0 ≤ n := by omega
    have hnc : cg n (e * v) := by rw [← hn]; exact cg_md _
    obtain ⟨u, rfl⟩ : ∃ u, t1 = -u := ⟨-t1, by omega⟩
    have c2 : r1 * t0 + r0 * u = 998244353 := by rw [← c]; grind
    have p1 : 0 ≤ r1 * t0 := Int.mul_nonneg h1 (by omega)
    have p2 : n * u ≤ 20000 * u := Int.mul_le_mul_of_nonneg_right e3 (by omega)
    have p3 : 20001 * u ≤ r0 * u := Int.mul_le_mul_of_nonneg_right (by omega) (by omega)
    have p4 : r1 * e ≤ 20000 * e := Int.mul_le_mul_of_nonneg_right hr (by omega)
    have p5 : 0 ≤ n * u := Int.mul_nonneg n0 (by omega)
    have p6 : 0 ≤ r1 * e := Int.mul_nonneg h1 (by omega)
    have p7 : cg (n * u + r1 * e) 0 := by
      have a1 := cg_mul hnc (cg_rf u)
      have a2 := cg_mul (cg_sy h6) (cg_rf e)
      have a3 := cg_add a1 a2
      have : e * v * u + -u * v * e = 0 := by grind
      rw [this] at a3
      exact a3
    have p8 : n * u + r1 * e = 0 ∨ n * u + r1 * e = 998244353 := by unfold cg at p7; omega
    rcases p8 with p8 | p8
    · have z1 : r1 = 0 := by
        rcases Int.lt_or_le 0 r1 with z | z
        · have : 1 * e ≤ r1 * e := Int.mul_le_mul_of_nonneg_right (by omega) (by omega)
          omega
        · omega
      have z2 : n = 0 := by
        rcases Int.lt_or_le 0 n with z | z
        · have : 1 * u ≤ n * u := Int.mul_le_mul_of_nonneg_right (by omega) (by omega)
          omega
        · omega
      have z3 : cg (e * v) 0 := by rw [← z2]; exact cg_sy hnc
      rcases cg_zero z3 with z4 | z4
      · unfold cg at z4; omega
      · have z5 : cg r0 0 := cg_tr (cg_sy h5) (by have := cg_mul (cg_rf t0) z4; rw [Int.mul_zero] at this; exact this)
        unfold cg at z5
        omega
    · have w1 : (r0 - n) * u = r1 * (e - t0) := by
        have : (r0 - n) * u = r0 * u - n * u := by grind
        rw [this]
        have : r1 * (e - t0) = r1 * e - r1 * t0 := by grind
        rw [this]
        omega
      have w2 : 0 < (r0 - n) * u := Int.mul_pos (by omega) (by omega)
      have w3 : 0 < e - t0 := by
        rcases Int.lt_or_le 0 (e - t0) with z | z
        · exact z
        · have := Int.mul_nonpos_of_nonneg_of_nonpos h1 z
          omega
      have w4 := dv_P (t := u) (e := e - t0) (k := (e - t0) * r0 + (r0 - n) * t0) (by omega) (by omega) w3 (by
        have a1 : u * ((e - t0) * r0 + (r0 - n) * t0) = (e - t0) * (r0 * u) + ((r0 - n) * u) * t0 := by grind
        rw [a1, w1]
        have a2 : (e - t0) * (r0 * u) + r1 * (e - t0) * t0 = (e - t0) * (r1 * t0 + r0 * u) := by grind
        rw [a2, c2])
      have w5 : n * u ≤ 20000 * u := p2
      omega
theorem s3_inForm (F : Nat) (hF : 100 ≤ F) {v form : Int32} (hv : fd v.toInt) : sp (fnX3_inForm F v form) (fun c => isForm v.toInt form.toInt c.toInt) := by
  have e0 : (0 : Int32).toInt = 0 := rfl
  unfold fnX3_inForm
  refine sp_ite (fun h => sp_some ?_) (fun h => ?_)
  · exact Or.inl ⟨by rw [h]; rfl, rfl⟩
  · have hform : form.toInt ≠ 0 := fun z => h (i_eq.mpr (by rw [e0]; exact z))
    refine sp_bind (sp_it (J := fun s : Int64 × Int64 × Int64 × Int64 × Int32 => eu v.toInt s.1.toInt s.2.1.toInt s.2.2.1.toInt s.2.2.2.1.toInt ∧ 0 ≤ s.2.2.2.2.toInt ∧ s.2.2.2.2.toInt ≤ 64 ∧ s.1.toInt * s.2.1.toInt * 2 ^ s.2.2.2.2.toInt.toNat ≤ 998244353 * 998244353) (Q := fun e : Int64 × Int64 => e.1.toInt ≤ 20000 ∧ ∃ r0 t0 : Int, eu v.toInt r0 e.1.toInt t0 e.2.toInt) (fun s => (64 - s.2.2.2.2.toInt).toNat) ?_ F _ ?_ ?_) ?_
    · rintro ⟨x2, x4, x6, x8, x10⟩ ⟨h1, h2, h3, h4⟩
      refine sp_u2 (sp_u2 (sp_u2 (sp_u2 ?_)))
      dsimp only at h1 h2 h3 h4
      have z64 : (64 : Int32).toInt = 64 := rfl
      have z2 : (20000 : Int64).toInt = 20000 := rfl
      have z1 : (1 : Int32).toInt = 1 := rfl
      have z0 : (0 : Int64).toInt = 0 := rfl
      unfold bdX3_inForm_23
      refine sp_ite (fun hc => sp_some ?_) (fun hc => ?_)
      · refine ⟨?_, _, _, h1⟩
        have hc2 := i_le.mp hc
        rw [z64] at hc2
        have hx : x10.toInt.toNat = 64 := by omega
        rw [hx] at h4
        rcases Int.lt_or_le 20000 x4.toInt with z | z
        · have m1 : 20000 * x4.toInt ≤ x2.toInt * x4.toInt := Int.mul_le_mul_of_nonneg_right (by have := h1.2.2.1; omega) (by omega)
          have m2 : x2.toInt * x4.toInt * 2 ^ 64 = x2.toInt * x4.toInt * 18446744073709551616 := by rfl
          omega
        · exact z
      · have hc2 : ¬ (64 : Int32).toInt ≤ x10.toInt := fun z => hc (i_le.mpr z)
        rw [z64] at hc2
        refine sp_ite (fun hd => sp_some ⟨?_, _, _, h1⟩) (fun hd => ?_)
        · have := l_le.mp hd; rw [z2] at this; exact this
        · have hd2 : ¬ x4.toInt ≤ (20000 : Int64).toInt := fun z => hd (l_le.mpr z)
          rw [z2] at hd2
          refine sp_neg (fun z => ?_) (sp_some ?_)
          · have := l_eq.mp z; rw [z0] at this; omega
          · obtain ⟨b1, b2, b3, b4⟩ := eu_small h1
            have k := eu_step h1 (by omega)
            obtain ⟨c1, c2, c3, c4⟩ := eu_small k
            have r0b := h1.2.2.2.1
            have r0c := h1.2.2.1
            have hh := eu_half (r0 := x2.toInt) (r1 := x4.toInt) (by omega) h1.2.1
            have e1 := l_div (a := x2) (b := x4) (by omega) (by omega)
            have k1 := k.1
            have k2 := k.2.1
            have e2 : (x2 / x4 * x4).toInt = x2.toInt / x4.toInt * x4.toInt := by
              rw [l_mul (by rw [e1]; omega) (by rw [e1]; omega), e1]
            have e3 : (x2 - x2 / x4 * x4).toInt = x2.toInt - x2.toInt / x4.toInt * x4.toInt := by
              rw [l_sub (by rw [e2]; omega) (by rw [e2]; omega), e2]
            have e4 : (x2 / x4 * x8).toInt = x2.toInt / x4.toInt * x8.toInt := by
              rw [l_mul (by rw [e1]; omega) (by rw [e1]; omega), e1]
            have e5 : (x6 - x2 / x4 * x8).toInt = x6.toInt - x2.toInt / x4.toInt * x8.toInt := by
              rw [l_sub (by rw [e4]; omega) (by rw [e4]; omega), e4]
            have e6 : (x10 + 1).toInt = x10.toInt + 1 := by rw [i_add (by rw [z1]; omega) (by rw [z1]; omega), z1]
            refine ⟨⟨?_, ?_, ?_, ?_⟩, ?_⟩
            · dsimp only; rw [e3, e5]; exact k
            · dsimp only; omega
            · dsimp only; omega
            · dsimp only
              rw [e3, e6]
              have e7 : (x10.toInt + 1).toNat = x10.toInt.toNat + 1 := by omega
              rw [e7, Int.pow_succ]
              have hp : (0 : Int) ≤ 2 ^ x10.toInt.toNat := Int.pow_nonneg (by omega)
              have m1 : x4.toInt * (2 * (x2.toInt - x2.toInt / x4.toInt * x4.toInt)) ≤ x4.toInt * x2.toInt := Int.mul_le_mul_of_nonneg_left hh (by omega)
              have m2 : x4.toInt * (2 * (x2.toInt - x2.toInt / x4.toInt * x4.toInt)) * 2 ^ x10.toInt.toNat ≤ x4.toInt * x2.toInt * 2 ^ x10.toInt.toNat := Int.mul_le_mul_of_nonneg_right m1 hp
              have m3 : x4.toInt * (x2.toInt - x2.toInt / x4.toInt * x4.toInt) * (2 ^ x10.toInt.toNat * 2) = x4.toInt * (2 * (x2.toInt - x2.toInt / x4.toInt * x4.toInt)) * 2 ^ x10.toInt.toNat := by grind
              rw [m3]
              have m4 : x4.toInt * x2.toInt = x2.toInt * x4.toInt := Int.mul_comm _ _
              rw [m4] at m2
              omega
            · dsimp only; omega
    · have hv0 := hv.1
      have hv1 := hv.2
      have zz : (998244353 : Int64).toInt = 998244353 := rfl
      have z0 : (0 : Int64).toInt = 0 := rfl
      have z1 : (1 : Int64).toInt = 1 := rfl
      refine ⟨?_, (show 0 ≤ (0 : Int32).toInt from by decide), (show (0 : Int32).toInt ≤ 64 from by decide), ?_⟩
      · dsimp only
        rw [i_l, zz, z0, z1]
        refine ⟨hv0, hv1, by omega, by omega, ?_, ?_, Or.inl ⟨by omega, by omega, by omega, by omega⟩⟩
        · unfold cg; omega
        · rw [Int.one_mul]; exact cg_rf _
      · dsimp only
        rw [i_l, zz]
        have : (2 : Int) ^ (0 : Int32).toInt.toNat = 1 := rfl
        rw [this, Int.mul_one]
        exact Int.mul_le_mul_of_nonneg_left (by omega) (by omega)
    · show (64 - (0 : Int32).toInt).toNat < F
      have : (64 - (0 : Int32).toInt).toNat = 64 := rfl
      omega
    · rintro ⟨r1, t1⟩ ⟨hr, r0, t0, h1⟩
      refine sp_u2 ?_
      dsimp only at hr h1
      obtain ⟨b1, b2, b3, b4⟩ := eu_small h1
      have z1 : (1 : Int64).toInt = 1 := rfl
      have z2 : (20000 : Int64).toInt = 20000 := rfl
      have hr0 := h1.1
      refine sp_ite (fun hc => sp_some ?_) (fun hc => ?_)
      · have hc2 := l_lt.mp hc
        rw [z1] at hc2
        refine Or.inr ⟨hform, Or.inl ⟨?_, rfl⟩⟩
        rcases h1.2.2.2.2.2.2 with z | z
        · omega
        · exact eu_neg h1 hr z.1
      · have hc2 : ¬ t1.toInt < (1 : Int64).toInt := fun z => hc (l_lt.mpr z)
        rw [z1] at hc2
        refine sp_ite (fun hd => ?_) (fun hd => sp_some ?_)
        · have hd2 := l_le.mp hd
          rw [z2] at hd2
          have hmod : r1.toInt = (t1.toInt * v.toInt) % 998244353 := by
            have := h1.2.2.2.2.2.1
            unfold cg at this
            have := h1.2.1
            have := h1.2.2.2.1
            omega
          have hF9 : isF v.toInt r1.toInt t1.toInt := ⟨⟨by omega, hd2, by omega⟩, hmod, fun e he => eu_pos h1 hr (by omega) he⟩
          refine sp_ite (fun hg => sp_some ?_) (fun hg => sp_some ?_)
          · refine Or.inr ⟨hform, Or.inr ⟨_, _, hF9, ?_⟩⟩
            rw [l_i (by omega) (by omega), if_pos (by rw [hg]; rfl)]
          · refine Or.inr ⟨hform, Or.inr ⟨_, _, hF9, ?_⟩⟩
            rw [l_i (by omega) (by omega), if_neg (fun z => hg (i_eq.mpr (by rw [z]; rfl)))]
        · have hd2 : ¬ t1.toInt ≤ (20000 : Int64).toInt := fun z => hd (l_le.mpr z)
          rw [z2] at hd2
          refine Or.inr ⟨hform, Or.inl ⟨fun e he => ?_, rfl⟩⟩
          have := eu_pos h1 hr (by omega) he
          have := he.2.1
          omega
theorem s11_formed (F : Nat) (hF : 30000 ≤ F) {v : Int64} {form : Int32} (hv : fd v.toInt) : sp (fnX11_formed F v form) (fun c => isForm v.toInt form.toInt c.toInt) := by
  have e0 : (0 : Int32).toInt = 0 := rfl
  have eP : (998244353 : Int64).toInt = 998244353 := rfl
  have z2 : (20000 : Int64).toInt = 20000 := rfl
  have z1 : (1 : Int64).toInt = 1 := rfl
  have hv0 := hv.1
  have hv1 := hv.2
  have mm : ∀ d : Int64, 1 ≤ d.toInt → d.toInt ≤ 20000 → ((d * v) - (d * v) / (998244353 : Int64) * (998244353 : Int64)).toInt = (d.toInt * v.toInt) % 998244353 := by
    intro d h1 h2
    have m0 : 0 ≤ d.toInt * v.toInt := Int.mul_nonneg (by omega) hv0
    have m1 : d.toInt * v.toInt ≤ 20000 * v.toInt := Int.mul_le_mul_of_nonneg_right h2 hv0
    have e := l_mul (a := d) (b := v) (by omega) (by omega)
    rw [l_rem (by rw [e]; exact m0) (by rw [eP]; omega), e, eP]
  unfold fnX11_formed
  refine sp_ite (fun h => sp_some ?_) (fun h => ?_)
  · refine Or.inl ⟨by rw [h]; rfl, ?_⟩
    rw [l_i (by omega) (by omega)]
  · have hform : form.toInt ≠ 0 := fun z => h (i_eq.mpr (by rw [e0]; exact z))
    refine sp_bind (sp_it (J := fun d : Int64 => 1 ≤ d.toInt ∧ d.toInt ≤ 20001 ∧ ∀ e, okF v.toInt e → d.toInt ≤ e) (Q := Sum.elim (fun _ => noF v.toInt) (fun d : Int64 => isF v.toInt ((d.toInt * v.toInt) % 998244353) d.toInt)) (fun d => (20001 - d.toInt).toNat) ?_ F _ ?_ ?_) ?_
    · rintro d ⟨h1, h2, h3⟩
      unfold bdX11_formed_9
      refine sp_ite (fun hc => sp_some ?_) (fun hc => ?_)
      · have hc2 := l_lt.mp hc
        rw [z2] at hc2
        intro e he
        have := h3 e he
        have := he.2.1
        omega
      · have hc2 : ¬ (20000 : Int64).toInt < d.toInt := fun z => hc (l_lt.mpr z)
        rw [z2] at hc2
        refine sp_ite (fun hd => sp_some ?_) (fun hd => sp_some ?_)
        · have hd2 := l_lt.mp hd
          rw [z2, mm d h1 (by omega)] at hd2
          have e6 : (d + 1).toInt = d.toInt + 1 := by rw [l_add (by rw [z1]; omega) (by rw [z1]; omega), z1]
          refine ⟨⟨by omega, by omega, fun e he => ?_⟩, by omega⟩
          have h4 := h3 e he
          rcases Int.lt_or_le d.toInt e with z | z
          · omega
          · have : e = d.toInt := by omega
            subst this
            have := he.2.2
            omega
        · have hd2 : ¬ (20000 : Int64).toInt < ((d * v) - (d * v) / (998244353 : Int64) * (998244353 : Int64)).toInt := fun z => hd (l_lt.mpr z)
          rw [z2, mm d h1 (by omega)] at hd2
          exact ⟨⟨h1, by omega, by omega⟩, rfl, h3⟩
    · refine ⟨by rw [z1]; omega, by rw [z1]; omega, fun e he => by rw [z1]; exact he.1⟩
    · show (20001 - (1 : Int64).toInt).toNat < F
      rw [z1]; omega
    · rintro (a | d) ha
      · exact sp_some (Or.inr ⟨hform, Or.inl ⟨ha, rfl⟩⟩)
      · have ha' : isF v.toInt ((d.toInt * v.toInt) % 998244353) d.toInt := ha
        obtain ⟨⟨a1, a2, a3⟩, a4, a5⟩ := ha'
        refine sp_ite (fun hg => sp_some ?_) (fun hg => sp_some ?_)
        · refine Or.inr ⟨hform, Or.inr ⟨_, _, ha, ?_⟩⟩
          rw [l_i (by rw [mm d a1 a2]; omega) (by rw [mm d a1 a2]; omega), if_pos (by rw [hg]; rfl), mm d a1 a2]
        · refine Or.inr ⟨hform, Or.inr ⟨_, _, ha, ?_⟩⟩
          rw [l_i (by omega) (by omega), if_neg (fun z => hg (i_eq.mpr (by rw [z]; rfl)))]
