/-! ===== changes kept ===== -/
def chQ (P : Int32 → Int32 → Prop) (N : Nat) (r29 r30 r31 r71 r78 r79 : Nat → Int32) : Prop := N ≤ 12 ∧ (r29 0).toInt = (N : Nat) ∧ r71 17 = r29 0 ∧ ∀ k, k < N → r78 k = r30 k ∧ r79 k = r31 k ∧ P (r30 k) (r31 k)
theorem chQ_s {P : Int32 → Int32 → Prop} {N : Nat} {r29 r30 r31 r71 r78 r79 : Nat → Int32} (h : chQ P N r29 r30 r31 r71 r78 r79) (hN : N < 12) {x1 x2 : Int32} (hx : P x1 x2) (F : Nat) :
    sp2 (jnX0_keep_49 F x1 x2 r29 r30 r31) (jnX11_changes_61 F x1 x2 r71 r78 r79) (fun a b => b.1 = x2 ∧ chQ P (N + 1) a.1 a.2.1 a.2.2 b.2.1 b.2.2.1 b.2.2.2 ∧ (∀ k, k ≠ 0 → a.1 k = r29 k) ∧ b.2.1 20 = 0 ∧ b.2.1 22 = 0 ∧ ∀ k, k ≠ 17 → k ≠ 20 → k ≠ 22 → b.2.1 k = r71 k) := by
  obtain ⟨h1, h2, h3, h4⟩ := h
  have e1 : (1 : Int32).toInt = 1 := rfl
  have hc : (r29 0).toNatClampNeg = N := by rw [i_cl, h2]; rfl
  have b1 : mj_ib (r29 0) 12 = true := mj_ib_of (by omega) (by omega)
  have b2 : mj_ib (r71 17) 13 = true := by rw [h3]; exact mj_ib_of (by omega) (by omega)
  unfold jnX0_keep_49 jnX11_changes_61 fnX11_isOther
  rw [if_pos b1, if_pos b1, if_pos b2, if_pos b2, Option.bind_some, h3, hc]
  refine sp2_some ⟨rfl, ⟨hN, ?_, ?_, fun k hk => ?_⟩, fun k hk => upd_ne hk, ?_, ?_, fun k k1 k2 k3 => ?_⟩
  · dsimp only; rw [upd_at, i_add (by omega) (by omega), h2, e1]; omega
  · dsimp only; rw [upd_ne (by decide), upd_ne (by decide), upd_at, upd_at]
  · dsimp only
    by_cases e : k = N
    · rw [e, upd_at, upd_at, upd_at, upd_at]; exact ⟨rfl, rfl, hx⟩
    · rw [upd_ne e, upd_ne e, upd_ne e, upd_ne e]; exact h4 k (by omega)
  · dsimp only; rw [upd_ne (by decide), upd_at]
  · dsimp only; rw [upd_at]
  · dsimp only; rw [upd_ne k3, upd_ne k2, upd_ne k1]
theorem s11_shift (F : Nat) (hF : 100 ≤ F) (r78 r79 : Nat → Int32) (x1 x2 : Int32) : sp (mj_it (mj_u2 (fun z0 => (mj_u2 (fun z1 z2 => bdX11_changes_11 F x1 x2 z0 z1 z2)))) F ((1 : Int32), r78, r79)) (fun e => ∀ k, k < 11 → e.1 k = r78 (k + 1) ∧ e.2 k = r79 (k + 1)) := by
  have e1 : (1 : Int32).toInt = 1 := rfl
  have e12 : (12 : Int32).toInt = 12 := rfl
  refine sp_it (J := fun s : Int32 × (Nat → Int32) × (Nat → Int32) => ∃ i : Nat, 1 ≤ i ∧ i ≤ 12 ∧ s.1.toInt = (i : Nat) ∧ (∀ k, k + 1 < i → s.2.1 k = r78 (k + 1) ∧ s.2.2 k = r79 (k + 1)) ∧ ∀ k, i ≤ k + 1 → s.2.1 k = r78 k ∧ s.2.2 k = r79 k) (fun s => (20 - s.1.toInt).toNat) ?_ F _ ?_ ?_
  · rintro ⟨x, a, b⟩ ⟨i, i0, i1, i2, i3, i4⟩
    refine sp_u2 (sp_u2 ?_)
    dsimp only at i2 i3 i4
    have hcx : x.toNatClampNeg = i := by rw [i_cl, i2]; rfl
    have hm : (x - 1).toInt = ((i - 1 : Nat) : Int) := by rw [i_sub (by omega) (by omega), i2, e1]; omega
    have hcm : (x - 1).toNatClampNeg = i - 1 := by rw [i_cl, hm]; rfl
    have hx1 : (x + 1).toInt = ((i + 1 : Nat) : Int) := by rw [i_add (by omega) (by omega), i2, e1]; omega
    have hmu : i < 12 → (20 - (x + 1).toInt).toNat < (20 - x.toInt).toNat := by intro z; rw [hx1, i2]; omega
    unfold bdX11_changes_11
    refine sp_ite (fun hz => sp_some (fun k hk => ?_)) (fun hz => ?_)
    · have := i_le.mp hz
      exact i3 k (by omega)
    · have hz2 : ¬ (12 : Int32).toInt ≤ x.toInt := fun z => hz (i_le.mpr z)
      have hi : i < 12 := by omega
      have b1 : mj_ib x 13 = true := mj_ib_of (by omega) (by omega)
      have b2 : mj_ib (x - 1) 13 = true := mj_ib_of (by omega) (by omega)
      refine sp_pos b1 (sp_pos b2 (sp_pos b1 (sp_pos b2 (sp_some ⟨⟨i + 1, by omega, hi, hx1, fun k hk => ?_, fun k hk => ?_⟩, hmu hi⟩))))
      · dsimp only
        rw [hcx, hcm]
        by_cases e : k = i - 1
        · have e' : k + 1 = i := by omega
          rw [e, upd_at, upd_at, ← e, e']
          exact i4 i (by omega)
        · rw [upd_ne e, upd_ne e]; exact i3 k (by omega)
      · dsimp only
        rw [hcm, upd_ne (by omega), upd_ne (by omega)]
        exact i4 k (by omega)
  · exact ⟨1, by omega, by omega, e1, fun k hk => absurd hk (by omega), fun _ _ => ⟨rfl, rfl⟩⟩
  · show (20 - (1 : Int32).toInt).toNat < F
    rw [e1]; omega
theorem s2_keep (F : Nat) (hF : 100 ≤ F) {P : Int32 → Int32 → Prop} {N : Nat} {r29 r30 r31 r71 r78 r79 : Nat → Int32} (h : chQ P N r29 r30 r31 r71 r78 r79) {x1 x2 : Int32} (hx : P x1 x2) :
    sp2 (fnX0_keep F r29 r30 r31 x1 x2) (fnX11_changes F r71 r78 r79 x1 x2) (fun a b => b.1 = x2 ∧ (∃ N, chQ P N a.1 a.2.1 a.2.2 b.2.1 b.2.2.1 b.2.2.2) ∧ (∀ k, k ≠ 0 → a.1 k = r29 k) ∧ b.2.1 20 = 0 ∧ b.2.1 22 = 0 ∧ ∀ k, k ≠ 17 → k ≠ 20 → k ≠ 22 → b.2.1 k = r71 k) := by
  have e1 : (1 : Int32).toInt = 1 := rfl
  have e12 : (12 : Int32).toInt = 12 := rfl
  obtain ⟨h1, h2, h3, h4⟩ := id h
  unfold fnX0_keep fnX11_changes
  by_cases z : r29 0 = 12
  · have hN : N = 12 := by rw [z, e12] at h2; omega
    subst hN
    have z2 : r71 17 = 12 := h3.trans z
    rw [if_pos z, if_pos z2, if_pos (show mj_cpk (1 : Int32) (0 : Int32) (11 : Int32) 12 12 = true from by decide), if_pos (show mj_cpk (1 : Int32) (0 : Int32) (11 : Int32) 12 12 = true from by decide)]
    refine sp2_br (s11_shift F hF r78 r79 x1 x2) ?_
    rintro ⟨e78, e79⟩ he
    dsimp only at he
    have hq : chQ P 11 (upd r29 0 (r29 0 - 1)) (va_cpy r30 r30 (1 : Int32).toNatClampNeg (0 : Int32).toNatClampNeg (11 : Int32).toNatClampNeg) (va_cpy r31 r31 (1 : Int32).toNatClampNeg (0 : Int32).toNatClampNeg (11 : Int32).toNatClampNeg) (upd r71 17 (r71 17 - 1)) e78 e79 := by
      refine ⟨by omega, ?_, ?_, fun k hk => ?_⟩
      · rw [upd_at, z]; rfl
      · rw [upd_at, upd_at, z, z2]
      · have c30 : ∀ r : Nat → Int32, va_cpy r r (1 : Int32).toNatClampNeg (0 : Int32).toNatClampNeg (11 : Int32).toNatClampNeg k = r (k + 1) := by
          intro r
          show (if 0 ≤ k ∧ k < 0 + 11 then r (1 + (k - 0)) else r k) = _
          rw [if_pos ⟨by omega, by omega⟩]
          congr 1
          omega
        rw [c30, c30, (he k hk).1, (he k hk).2]
        exact h4 (k + 1) (by omega)
    refine sp2_mono (chQ_s hq (by omega) hx F) ?_
    rintro a b ⟨p1, p2, p3, p4, p5, p6⟩
    exact ⟨p1, ⟨_, p2⟩, fun k hk => (p3 k hk).trans (upd_ne hk), p4, p5, fun k k1 k2 k3 => (p6 k k1 k2 k3).trans (upd_ne k1)⟩
  · have hN : N < 12 := by
      have : ¬ N = 12 := fun w => z (i_eq.mpr (by rw [h2, w]; rfl))
      omega
    rw [if_neg z, if_neg (fun w => z (h3.symm.trans w))]
    refine sp2_mono (chQ_s h hN hx F) ?_
    rintro a b ⟨p1, p2, p3⟩
    exact ⟨p1, ⟨_, p2⟩, p3⟩
