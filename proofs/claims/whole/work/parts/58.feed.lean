/-! ===== feed, one word ===== -/
theorem nar_b (y : Int32) : vp_nar .byte (y.toInt8.toInt32) = y.toInt8.toInt32 := by
  show (y.toInt8.toInt32).toInt8.toInt32 = _
  first
    | rw [Int8.toInt8_toInt32]
    | simp
def tpQ (N : Nat) (r2 r3 r71 r76 : Nat → Int32) : Prop := N ≤ 400 ∧ (r2 0).toInt = (N : Nat) ∧ r71 9 = r2 0 ∧ ∀ k, k < N → tb (r3 k) (r76 k)
theorem i_m8 {x : Int32} {u : Int} (h : x.toInt = u) (hu : -100 ≤ u ∧ u ≤ 100) : (x + (-8)).toInt = u - 8 := by
  have h1 : -2147483648 ≤ u + (-8) := by omega
  have h2 : u + (-8) < 2147483648 := by omega
  exact i_add_of h (show (-8 : Int32).toInt = -8 from rfl) h1 h2
theorem mu_m8 {a b u : Int} (ha : a = u - 8) (hb : b = u) (hu : 0 ≤ u) : (a + 9).toNat < (b + 9).toNat := by omega
theorem tpQ_s {N : Nat} {r2 r3 r71 r76 : Nat → Int32} (h : tpQ N r2 r3 r71 r76) (hN : N < 400) {c s : Int32} (hb : tb c s) : tpQ (N + 1) (upd r2 0 (r2 0 + 1)) (upd r3 (r2 0).toNatClampNeg c) (upd r71 9 (r71 9 + 1)) (upd r76 (r71 9).toNatClampNeg s) := by
  obtain ⟨h1, h2, h3, h4⟩ := h
  have e1 : (1 : Int32).toInt = 1 := rfl
  have hc : (r2 0).toNatClampNeg = N := by rw [i_cl, h2]; rfl
  refine ⟨hN, ?_, ?_, fun k hk => ?_⟩
  · rw [upd_at, i_add (by omega) (by omega), h2, e1]; omega
  · rw [upd_at, upd_at, h3]
  · rw [h3, hc]
    by_cases e : k = N
    · rw [e, upd_at, upd_at]; exact hb
    · rw [upd_ne e, upd_ne e]; exact h4 k (by omega)
theorem s2_put (F : Nat) (hF : 100 ≤ F) {N : Nat} (hN : N + 4 ≤ 400) {r2 r3 r71 r76 : Nat → Int32} (h : tpQ N r2 r3 r71 r76) (x : Int32) : sp2 (fnX8_put F r2 r3 x) (fnX11_puts F r71 r76 x) (fun a b => tpQ (N + 4) a.1 a.2 b.1 b.2 ∧ (∀ k, k ≠ 0 → a.1 k = r2 k) ∧ ∀ k, k ≠ 9 → b.1 k = r71 k) := by
  have e0 : (0 : Int32).toInt = 0 := rfl
  have e24 : (24 : Int32).toInt = 24 := rfl
  have e400 : (400 : Int32).toInt = 400 := rfl
  unfold fnX8_put fnX11_puts
  refine sp2_bind (P := fun (a b : (Nat → Int32) × (Nat → Int32)) => tpQ (N + 4) a.1 a.2 b.1 b.2 ∧ (∀ k, k ≠ 0 → a.1 k = r2 k) ∧ ∀ k, k ≠ 9 → b.1 k = r71 k) (sp2_it (J := fun (s t : Int32 × (Nat → Int32) × (Nat → Int32)) => t.1 = s.1 ∧ ∃ m : Nat, m ≤ 4 ∧ s.1.toInt = 24 - 8 * (m : Int) ∧ tpQ (N + m) s.2.1 s.2.2 t.2.1 t.2.2 ∧ (∀ k, k ≠ 0 → s.2.1 k = r2 k) ∧ ∀ k, k ≠ 9 → t.2.1 k = r71 k) (fun s => (s.1.toInt + 9).toNat) ?_ F _ _ ?_ ?_) ?_
  · rintro ⟨y, a, b⟩ ⟨y', c, d⟩ ⟨hy, m, m1, m2, m3, m4, m5⟩
    dsimp only at hy m2 m3 m4 m5
    subst hy
    show (∃ s' t', bdX8_put_3 F x y' a b = _ ∧ bdX11_puts_3 F x y' c d = _ ∧ _) ∨ (∃ e e', bdX8_put_3 F x y' a b = _ ∧ bdX11_puts_3 F x y' c d = _ ∧ _)
    unfold bdX8_put_3 bdX11_puts_3
    by_cases z : y' < 0
    · right
      have z1 := i_lt.mp z
      have hm : m = 4 := by omega
      subst hm
      exact ⟨(a, b), (c, d), by rw [if_pos z], by rw [if_pos z], m3, m4, m5⟩
    · left
      have z1 : ¬ y'.toInt < (0 : Int32).toInt := fun w => z (i_lt.mpr w)
      have hm : m < 4 := by omega
      obtain ⟨k1, k2, k3, k4⟩ := id m3
      have hb1 : mj_ib (a 0) 400 = true := mj_ib_of (by omega) (by omega)
      have hb2 : mj_ib (c 9) 400 = true := by rw [k3]; exact hb1
      have hx := i_m8 m2 (by omega)
      refine ⟨(y' + (-8), upd a 0 (a 0 + 1), upd b (a 0).toNatClampNeg ((x >>> (y' &&& 31)) &&& 255)), (y' + (-8), upd c 9 (c 9 + 1), upd d (c 9).toNatClampNeg (vp_nar .byte ((x >>> (y' &&& 31)).toInt8.toInt32))), ?_, ?_, ⟨rfl, m + 1, hm, ?_, ?_, fun k hk => ?_, fun k hk => ?_⟩, ?_⟩
      · rw [if_neg z, if_neg (fun w => by have := i_le.mp w; omega), if_pos hb1]
      · rw [if_neg z, if_pos hb2]
      · exact hx.trans (by omega)
      · rw [nar_b]
        exact tpQ_s m3 (by omega) (tb_and _)
      · exact (upd_ne hk).trans (m4 k hk)
      · exact (upd_ne hk).trans (m5 k hk)
      · exact mu_m8 hx m2 (by omega)
  · exact ⟨rfl, 0, by omega, e24, h, fun _ _ => rfl, fun _ _ => rfl⟩
  · show ((24 : Int32).toInt + 9).toNat < F
    rw [e24]; omega
  · rintro ⟨a, b⟩ ⟨c, d⟩ hq
    exact sp2_some hq
