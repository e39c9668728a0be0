/-! ===== the states as they come: the class's slots against the reference's search ===== -/
def hs (p v : Int32) : Int32 := (((((1000000 : Int32) * p) + v) * (-1640531535 : Int32)).toUInt32 >>> ((23 : Int32).toUInt32 &&& Int32.toUInt32 31)).toInt32
theorem hs_b (p v : Int32) : 0 ≤ (hs p v).toInt ∧ (hs p v).toInt < 512 := by
  unfold hs
  generalize ((((1000000 : Int32) * p) + v) * (-1640531535 : Int32)).toUInt32 = u
  have e1 : ((23 : Int32).toUInt32 &&& Int32.toUInt32 31) = 23 := by decide
  rw [e1]
  have e2 : (u >>> 23).toNat = u.toNat / 2 ^ 23 := by
    rw [UInt32.toNat_shiftRight, Nat.shiftRight_eq_div_pow]
    rfl
  have e3 : (u >>> 23).toNat < 512 := by
    rw [e2]
    have := UInt32.toNat_lt u
    omega
  have e4 : (u >>> 23).toInt32.toInt = ((u >>> 23).toNat : Int) := by
    show (u >>> 23).toBitVec.toInt = _
    have : (u >>> 23).toBitVec.toNat = (u >>> 23).toNat := rfl
    rw [BitVec.toInt_eq_toNat_of_lt (by rw [this]; omega), this]
  rw [e4]
  omega
def hn (p v : Int32) : Nat := (hs p v).toInt.toNat
theorem hn_b (p v : Int32) : hn p v < 512 := by have := hs_b p v; unfold hn; omega
def cz (r : Nat → Int32) : Nat → Nat
  | 0 => 0
  | N + 1 => cz r N + if r N = 0 then 1 else 0
theorem cz_le (r : Nat → Int32) : ∀ N, cz r N ≤ N := by
  intro N
  induction N with
  | zero => exact Nat.le_refl 0
  | succ N ih => unfold cz; split <;> omega
theorem cz_ex (r : Nat → Int32) : ∀ N, 0 < cz r N → ∃ j, j < N ∧ r j = 0 := by
  intro N
  induction N with
  | zero => intro h; exact absurd h (Nat.not_lt_zero 0)
  | succ N ih =>
    intro h
    by_cases h2 : r N = 0
    · exact ⟨N, by omega, h2⟩
    · unfold cz at h
      rw [if_neg h2] at h
      obtain ⟨j, h3, h4⟩ := ih h
      exact ⟨j, by omega, h4⟩
theorem cz_out (r : Nat → Int32) (k : Nat) (v : Int32) : ∀ N, N ≤ k → cz (upd r k v) N = cz r N := by
  intro N
  induction N with
  | zero => intro _; rfl
  | succ N ih =>
    intro h
    unfold cz
    rw [ih (by omega), upd_ne (by omega)]
theorem cz_upd (r : Nat → Int32) (k : Nat) (v : Int32) (h1 : r k = 0) (h2 : ¬ v = 0) : ∀ N, k < N → cz (upd r k v) N + 1 = cz r N := by
  intro N
  induction N with
  | zero => intro h; omega
  | succ N ih =>
    intro h
    unfold cz
    by_cases h3 : k = N
    · subst h3
      rw [cz_out r k v k (Nat.le_refl k), upd_at, if_neg h2, if_pos h1]
    · rw [upd_ne (fun z => h3 z.symm)]
      have := ih (by omega)
      omega
/-- the slots tell of the first n states -/
def hQ (n : Nat) (r33 r34 r40 : Nat → Int32) : Prop :=
  (∀ j, j < 512 → 0 ≤ (r40 j).toInt ∧ (r40 j).toInt ≤ n) ∧
  (∀ s, s < n → ∃ t, t < 512 ∧ (r40 ((hn (r33 s) (r34 s) + t) % 512)).toInt = s + 1 ∧ ∀ u, u < t → ¬ r40 ((hn (r33 s) (r34 s) + u) % 512) = 0) ∧
  cz r40 512 + n = 512 ∧
  (∀ s s', s < n → s' < n → r33 s = r33 s' → r34 s = r34 s' → s = s')
/-- the search -/
theorem s4_probe0 (F : Nat) (hF : 600 ≤ F) {n : Nat} (hn200 : n ≤ 200) {r33 r34 r40 : Nat → Int32} (p v x3 x0 : Int32) (h0 : Nat) (hx0 : x0.toInt = h0) (hnb : h0 < 512) (ha : ∀ j, j < 512 → 0 ≤ (r40 j).toInt ∧ (r40 j).toInt ≤ n) (hb : ∀ s, s < n → r33 s = p → r34 s = v → ∃ t, t < 512 ∧ (r40 ((h0 + t) % 512)).toInt = s + 1 ∧ ∀ u, u < t → ¬ r40 ((h0 + u) % 512) = 0) (hc : cz r40 512 + n = 512) :
    sp (mj_it (mj_u2 (fun z0 z1 => bdX4_stateAt_17 F r33 r34 r40 p v x3 z0 z1)) F (x0, (0 : Int32))) (Sum.elim (fun x4 => ∃ t, t < 512 ∧ x4.toInt = ((h0 + t) % 512 : Nat) ∧ r40 ((h0 + t) % 512) = 0 ∧ (∀ u, u < t → ¬ r40 ((h0 + u) % 512) = 0) ∧ ∀ s, s < n → ¬ (r33 s = p ∧ r34 s = v)) (fun x6 => ∃ s, s < n ∧ x6.toInt = s ∧ r33 s = p ∧ r34 s = v)) := by
  have e512 : (512 : Int32).toInt = 512 := rfl
  have e1 : (1 : Int32).toInt = 1 := rfl
  have e0 : (0 : Int32).toInt = 0 := rfl
  refine sp_it (J := fun s : Int32 × Int32 => ∃ t : Nat, t ≤ 512 ∧ s.2.toInt = t ∧ s.1.toInt = ((h0 + t) % 512 : Nat) ∧ ∀ u, u < t → ¬ r40 ((h0 + u) % 512) = 0 ∧ ∀ s, s < n → (r40 ((h0 + u) % 512)).toInt = s + 1 → ¬ (r33 s = p ∧ r34 s = v)) (fun s => (512 - s.2.toInt).toNat) ?_ F _ ?_ ?_
  · rintro ⟨x4, x5⟩ ⟨t, h1, h2, h3, h4⟩
    refine sp_u2 ?_
    dsimp only at h2 h3
    have hx4 : x4.toNatClampNeg = (h0 + t) % 512 := by rw [i_cl, h3]; omega
    unfold bdX4_stateAt_17
    refine sp_ite (fun hz => ?_) (fun hz => ?_)
    · exfalso
      have hz2 := i_le.mp hz
      have ht : t = 512 := by omega
      have hpos : 0 < cz r40 512 := by omega
      obtain ⟨j, hj1, hj2⟩ := cz_ex r40 512 hpos
      have hu := (h4 ((j + 512 - h0) % 512) (by omega)).1
      have e : (h0 + (j + 512 - h0) % 512) % 512 = j := by omega
      rw [e] at hu
      exact hu hj2
    · have hz2 : ¬ (512 : Int32).toInt ≤ x5.toInt := fun z => hz (i_le.mpr z)
      have hib : mj_ib x4 512 = true := mj_ib_of (by omega) (by omega)
      refine sp_pos hib ?_
      rw [hx4]
      refine sp_ite (fun hz0 => sp_some ?_) (fun hz0 => ?_)
      · refine ⟨t, by omega, h3, hz0, fun u hu => (h4 u hu).1, ?_⟩
        rintro s hs ⟨q1, q2⟩
        obtain ⟨t', g1, g2, g3⟩ := hb s hs q1 q2
        rcases Nat.lt_trichotomy t' t with z | z | z
        · exact (h4 t' z).2 s hs g2 ⟨q1, q2⟩
        · subst z
          rw [hz0, e0] at g2
          omega
        · exact g3 t z hz0
      · have hj := ha ((h0 + t) % 512) (by omega)
        have hne : ¬ (r40 ((h0 + t) % 512)).toInt = 0 := fun z => hz0 (i_eq.mpr (by rw [e0]; exact z))
        refine sp_pos hib ?_
        generalize hw : r40 ((h0 + t) % 512) = w at *
        have ew : (w - 1).toInt = w.toInt - 1 := by rw [i_sub (by omega) (by omega), e1]
        have hib2 : mj_ib (w - 1) 200 = true := mj_ib_of (by omega) (by omega)
        have es : (w - 1).toNatClampNeg = (w.toInt - 1).toNat := by rw [i_cl, ew]
        have hx4' : ((x4 + 1) - (x4 + 1) / (512 : Int32) * (512 : Int32)).toInt = ((h0 + (t + 1)) % 512 : Nat) := by
          have a1 : (x4 + 1).toInt = x4.toInt + 1 := by rw [i_add (by omega) (by omega), e1]
          rw [i_rem (by omega) (by omega), a1, e512, h3]
          omega
        have hx5' : (x5 + 1).toInt = t + 1 := by rw [i_add (by omega) (by omega), e1, h2]
        have go : ¬ (r33 (w.toInt - 1).toNat = p ∧ r34 (w.toInt - 1).toNat = v) → sp (some (Sum.inl (((x4 + 1) - (x4 + 1) / (512 : Int32) * (512 : Int32)), x5 + 1)) : Option ((Int32 × Int32) ⊕ (Int32 ⊕ Int32))) (Sum.elim (fun s' : Int32 × Int32 => (∃ t : Nat, t ≤ 512 ∧ s'.2.toInt = t ∧ s'.1.toInt = ((h0 + t) % 512 : Nat) ∧ ∀ u, u < t → ¬ r40 ((h0 + u) % 512) = 0 ∧ ∀ s, s < n → (r40 ((h0 + u) % 512)).toInt = s + 1 → ¬ (r33 s = p ∧ r34 s = v)) ∧ (512 - s'.2.toInt).toNat < (512 - x5.toInt).toNat) (Sum.elim (fun x4 => ∃ t, t < 512 ∧ x4.toInt = ((h0 + t) % 512 : Nat) ∧ r40 ((h0 + t) % 512) = 0 ∧ (∀ u, u < t → ¬ r40 ((h0 + u) % 512) = 0) ∧ ∀ s, s < n → ¬ (r33 s = p ∧ r34 s = v)) (fun x6 => ∃ s, s < n ∧ x6.toInt = s ∧ r33 s = p ∧ r34 s = v))) := by
          intro hno
          refine sp_some ⟨⟨t + 1, by omega, by dsimp only; omega, hx4', ?_⟩, by dsimp only; omega⟩
          intro u hu
          by_cases hut : u = t
          · subst hut
            rw [hw]
            refine ⟨hz0, fun s hs hs2 => ?_⟩
            have : s = (w.toInt - 1).toNat := by omega
            subst this
            exact hno
          · exact h4 u (by omega)
        refine sp_pos hib2 ?_
        rw [es]
        refine sp_ite (fun q1 => ?_) (fun q1 => go (fun z => q1 z.1))
        refine sp_pos hib2 ?_
        refine sp_ite (fun q2 => sp_some ?_) (fun q2 => go (fun z => q2 z.2))
        exact ⟨(w.toInt - 1).toNat, by omega, by rw [ew]; omega, q1, q2⟩
  · refine ⟨0, by omega, e0, ?_, fun u hu => absurd hu (Nat.not_lt_zero u)⟩
    dsimp only
    omega
  · show (512 - (0 : Int32).toInt).toNat < F
    rw [e0]; omega
theorem s4_probe (F : Nat) (hF : 600 ≤ F) {n : Nat} (hn200 : n ≤ 200) {r33 r34 r40 : Nat → Int32} (h : hQ n r33 r34 r40) (p v x3 : Int32) :
    sp (mj_it (mj_u2 (fun z0 z1 => bdX4_stateAt_17 F r33 r34 r40 p v x3 z0 z1)) F (hs p v, (0 : Int32))) (Sum.elim (fun x4 => ∃ t, t < 512 ∧ x4.toInt = ((hn p v + t) % 512 : Nat) ∧ r40 ((hn p v + t) % 512) = 0 ∧ (∀ u, u < t → ¬ r40 ((hn p v + u) % 512) = 0) ∧ ∀ s, s < n → ¬ (r33 s = p ∧ r34 s = v)) (fun x6 => ∃ s, s < n ∧ x6.toInt = s ∧ r33 s = p ∧ r34 s = v)) := by
  obtain ⟨ha, hb, hc, hd⟩ := h
  have h1 : (hs p v).toInt = (hn p v : Int) := (Int.toNat_of_nonneg (hs_b p v).1).symm
  have h2 := hn_b p v
  have h3 : ∀ s, s < n → r33 s = p → r34 s = v → ∃ t, t < 512 ∧ (r40 ((hn p v + t) % 512)).toInt = s + 1 ∧ ∀ u, u < t → ¬ r40 ((hn p v + u) % 512) = 0 := by
    intro s hs q1 q2
    have := hb s hs
    rw [q1, q2] at this
    exact this
  exact s4_probe0 F hF hn200 p v x3 (hs p v) (hn p v) h1 h2 ha h3 hc
theorem hQ_push0 {n : Nat} {r40 : Nat → Int32} (g : Nat → Nat) (h0 : Nat) (ha : ∀ j, j < 512 → 0 ≤ (r40 j).toInt ∧ (r40 j).toInt ≤ n) (hb : ∀ s, s < n → ∃ t, t < 512 ∧ (r40 ((g s + t) % 512)).toInt = s + 1 ∧ ∀ u, u < t → ¬ r40 ((g s + u) % 512) = 0) (hc : cz r40 512 + n = 512) (hn2 : n < 200) (t : Nat) (ht : t < 512) (hz : r40 ((h0 + t) % 512) = 0) (h1 : ∀ u, u < t → ¬ r40 ((h0 + u) % 512) = 0) (w : Int32) (hw : w.toInt = n + 1) :
    (∀ j, j < 512 → 0 ≤ (upd r40 ((h0 + t) % 512) w j).toInt ∧ (upd r40 ((h0 + t) % 512) w j).toInt ≤ (n + 1 : Nat)) ∧ (∀ s, s < n → ∃ t', t' < 512 ∧ (upd r40 ((h0 + t) % 512) w ((g s + t') % 512)).toInt = s + 1 ∧ ∀ u, u < t' → ¬ upd r40 ((h0 + t) % 512) w ((g s + u) % 512) = 0) ∧ (∃ t', t' < 512 ∧ (upd r40 ((h0 + t) % 512) w ((h0 + t') % 512)).toInt = n + 1 ∧ ∀ u, u < t' → ¬ upd r40 ((h0 + t) % 512) w ((h0 + u) % 512) = 0) ∧ cz (upd r40 ((h0 + t) % 512) w) 512 + (n + 1) = 512 := by
  have e0 : (0 : Int32).toInt = 0 := rfl
  have hw0 : ¬ w = 0 := fun z => by rw [z, e0] at hw; omega
  refine ⟨fun j hj => ?_, fun s hs => ?_, ⟨t, ht, by rw [upd_at, hw], fun u hu => ?_⟩, ?_⟩
  · by_cases hj2 : j = (h0 + t) % 512
    · subst hj2; rw [upd_at]; omega
    · rw [upd_ne hj2]; have := ha j hj; omega
  · obtain ⟨t', g1, g2, g3⟩ := hb s hs
    refine ⟨t', g1, ?_, fun u hu => ?_⟩
    · rw [upd_ne (fun e => ?_)]
      · exact g2
      · rw [e, hz, e0] at g2; omega
    · by_cases e : (g s + u) % 512 = (h0 + t) % 512
      · rw [e, upd_at]; exact hw0
      · rw [upd_ne e]; exact g3 u hu
  · by_cases e : (h0 + u) % 512 = (h0 + t) % 512
    · rw [e, upd_at]; exact hw0
    · rw [upd_ne e]; exact h1 u hu
  · have := cz_upd r40 ((h0 + t) % 512) w hz hw0 512 (by omega)
    omega
theorem hQ_push {n : Nat} {r33 r34 r40 : Nat → Int32} (h : hQ n r33 r34 r40) (p v : Int32) (hn2 : n < 200) (t : Nat) (ht : t < 512) (h0 : r40 ((hn p v + t) % 512) = 0) (h1 : ∀ u, u < t → ¬ r40 ((hn p v + u) % 512) = 0) (h2 : ∀ s, s < n → ¬ (r33 s = p ∧ r34 s = v)) (w : Int32) (hw : w.toInt = n + 1) :
    hQ (n + 1) (upd r33 n p) (upd r34 n v) (upd r40 ((hn p v + t) % 512) w) := by
  obtain ⟨ha, hb, hc, hd⟩ := h
  obtain ⟨k1, k2, k3, k4⟩ := hQ_push0 (fun s => hn (r33 s) (r34 s)) (hn p v) ha hb hc hn2 t ht h0 h1 w hw
  refine ⟨k1, fun s hs => ?_, k4, fun s s' hs hs' q1 q2 => ?_⟩
  · by_cases hsn : s = n
    · subst hsn
      rw [upd_at, upd_at]
      exact k3
    · rw [upd_ne hsn, upd_ne hsn]
      exact k2 s (Nat.lt_of_le_of_ne (Nat.le_of_lt_succ hs) hsn)
  · by_cases z1 : s = n <;> by_cases z2 : s' = n
    · rw [z1, z2]
    · rw [z1, upd_at, upd_ne z2] at q1 q2
      exact absurd ⟨q1.symm, q2.symm⟩ (h2 s' (Nat.lt_of_le_of_ne (Nat.le_of_lt_succ hs') z2))
    · rw [z2, upd_at, upd_ne z1] at q1 q2
      exact absurd ⟨q1, q2⟩ (h2 s (Nat.lt_of_le_of_ne (Nat.le_of_lt_succ hs) z1))
    · rw [upd_ne z1, upd_ne z2] at q1 q2
      exact hd s s' (Nat.lt_of_le_of_ne (Nat.le_of_lt_succ hs) z1) (Nat.lt_of_le_of_ne (Nat.le_of_lt_succ hs') z2) q1 q2
/-- the reference's search -/
theorem s11_search (F : Nat) (hF : 600 ≤ F) {n : Nat} (hn200 : n ≤ 200) {r71 r80 r81 : Nat → Int32} (hst : (r71 24).toInt = n) (p v : Int32) :
    sp (mj_it (bdX11_stateFor_19 F r71 r80 r81 p v) F (0 : Int32)) (Sum.elim (fun _ => ∀ s, s < n → ¬ (r80 s = p ∧ r81 s = v)) (fun x => ∃ s, s < n ∧ x.toInt = s ∧ r80 s = p ∧ r81 s = v)) := by
  have e1 : (1 : Int32).toInt = 1 := rfl
  have e0 : (0 : Int32).toInt = 0 := rfl
  refine sp_it (J := fun x : Int32 => ∃ t : Nat, t ≤ n ∧ x.toInt = t ∧ ∀ s, s < t → ¬ (r80 s = p ∧ r81 s = v)) (fun x => (200 - x.toInt).toNat) ?_ F _ ?_ ?_
  · rintro x ⟨t, h1, h2, h3⟩
    unfold bdX11_stateFor_19
    refine sp_ite (fun hz => sp_some ?_) (fun hz => ?_)
    · have hz2 := i_le.mp hz
      have : t = n := by omega
      subst this
      exact h3
    · have hz2 : ¬ (r71 24).toInt ≤ x.toInt := fun z => hz (i_le.mpr z)
      have hib : mj_ib x 200 = true := mj_ib_of (by omega) (by omega)
      have hx : x.toNatClampNeg = t := by rw [i_cl, h2]; rfl
      have hx1 : (x + 1).toInt = t + 1 := by rw [i_add (by omega) (by omega), e1, h2]
      rw [hx]
      have go : ¬ (r80 t = p ∧ r81 t = v) → sp (some (Sum.inl (x + 1)) : Option (Int32 ⊕ (Unit ⊕ Int32))) (Sum.elim (fun s' : Int32 => (∃ t : Nat, t ≤ n ∧ s'.toInt = t ∧ ∀ s, s < t → ¬ (r80 s = p ∧ r81 s = v)) ∧ (200 - s'.toInt).toNat < (200 - x.toInt).toNat) (Sum.elim (fun _ => ∀ s, s < n → ¬ (r80 s = p ∧ r81 s = v)) (fun x => ∃ s, s < n ∧ x.toInt = s ∧ r80 s = p ∧ r81 s = v))) := by
        intro hno
        refine sp_some ⟨⟨t + 1, by omega, by omega, fun s hs => ?_⟩, by omega⟩
        by_cases hst2 : s = t
        · subst hst2; exact hno
        · exact h3 s (by omega)
      refine sp_pos hib (sp_ite (fun q1 => ?_) (fun q1 => go (fun z => q1 z.1)))
      refine sp_pos hib (sp_ite (fun q2 => sp_some ?_) (fun q2 => go (fun z => q2 z.2)))
      exact ⟨t, by omega, h2, q1, q2⟩
  · exact ⟨0, by omega, e0, fun s hs => absurd hs (Nat.not_lt_zero s)⟩
  · show (200 - (0 : Int32).toInt).toNat < F
    rw [e0]; omega
