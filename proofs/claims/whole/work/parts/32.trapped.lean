/-! ===== which states lead to an end: the class's sweeps ===== -/
def LD (n : Nat) (fin : Nat → Prop) (na : Nat → Nat) (tg : Nat → Nat → Nat) (s : Nat) : Prop := ∀ T : Nat → Prop, (∀ u, u < n → fin u → T u) → (∀ u k, u < n → k < na u → T (tg u k) → T u) → T s
theorem LD_fin {n : Nat} {fin : Nat → Prop} {na : Nat → Nat} {tg : Nat → Nat → Nat} {s : Nat} (hs : s < n) (h : fin s) : LD n fin na tg s := fun _ h1 _ => h1 s hs h
theorem LD_arc {n : Nat} {fin : Nat → Prop} {na : Nat → Nat} {tg : Nat → Nat → Nat} {s k : Nat} (hs : s < n) (hk : k < na s) (h : LD n fin na tg (tg s k)) : LD n fin na tg s := fun T h1 h2 => h2 s k hs hk (h T h1 h2)
def ct (r : Nat → Int32) : Nat → Nat
  | 0 => 0
  | N + 1 => ct r N + if r N = 0 then 0 else 1
theorem ct_le (r : Nat → Int32) : ∀ N, ct r N ≤ N := by
  intro N
  induction N with
  | zero => exact Nat.le_refl 0
  | succ N ih => unfold ct; split <;> omega
theorem ct_out (r : Nat → Int32) (k : Nat) (v : Int32) : ∀ N, N ≤ k → ct (upd r k v) N = ct r N := by
  intro N
  induction N with
  | zero => intro _; rfl
  | succ N ih =>
    intro h
    unfold ct
    rw [ih (by omega), upd_ne (by omega)]
theorem ct_dn (r : Nat → Int32) (k : Nat) (h1 : ¬ r k = 0) : ∀ N, k < N → ct (upd r k 0) N + 1 = ct r N := by
  intro N
  induction N with
  | zero => intro h; omega
  | succ N ih =>
    intro h
    unfold ct
    by_cases h3 : k = N
    · subst h3
      rw [ct_out r k 0 k (Nat.le_refl k), upd_at, if_pos rfl, if_neg h1]
    · rw [upd_ne (fun z => h3 z.symm)]
      have := ih (by omega)
      omega
theorem ct_0 (r : Nat → Int32) : ∀ N, ct r N = 0 → ∀ s, s < N → r s = 0 := by
  intro N
  induction N with
  | zero => intro _ s hs; omega
  | succ N ih =>
    intro h s hs
    unfold ct at h
    by_cases h2 : r N = 0
    · rw [if_pos h2] at h
      by_cases hsN : s = N
      · rw [hsN]; exact h2
      · exact ih (by omega) s (by omega)
    · rw [if_neg h2] at h
      omega
/-- the arcs, as the class has them -/
def cA (n : Nat) (fr na : Nat → Nat) (tg : Nat → Nat → Nat) (r37 r38 : Nat → Int32) : Prop := ∀ s, s < n → (r37 s).toInt = fr s ∧ (r37 (s + 1)).toInt = fr s + na s ∧ fr s + na s ≤ 2000 ∧ ∀ k, k < na s → (r38 (fr s + k)).toInt = tg s k ∧ tg s k < n
theorem s4_leadsOut (F : Nat) (hF : 2100 ≤ F) {n : Nat} (hn : n ≤ 200) {fr na : Nat → Nat} {tg : Nat → Nat → Nat} {r36 r37 r38 : Nat → Int32} (hA : cA n fr na tg r37 r38) {x : Int32} {s : Nat} (hx : x.toInt = s) (hs : s < n) :
    sp (fnX4_leadsOut F r36 r37 r38 x) (fun o => (o = 0 → ∀ k, k < na s → ¬ r36 (tg s k) = 0) ∧ (¬ o = 0 → ∃ k, k < na s ∧ r36 (tg s k) = 0)) := by
  obtain ⟨a1, a2, a3, a4⟩ := hA s hs
  have e1 : (1 : Int32).toInt = 1 := rfl
  have hcx : x.toNatClampNeg = s := by rw [i_cl, hx]; rfl
  have hx1 : (x + 1).toInt = ((s + 1 : Nat) : Int) := by rw [i_add (by omega) (by omega), hx, e1]; omega
  have hcx1 : (x + 1).toNatClampNeg = s + 1 := by rw [i_cl, hx1]; omega
  unfold fnX4_leadsOut
  refine sp_pos (mj_ib_of (by omega) (by omega)) ?_
  rw [hcx]
  refine sp_bind (sp_it (J := fun y : Int32 => ∃ k, k ≤ na s ∧ y.toInt = ((fr s + k : Nat) : Int) ∧ ∀ j, j < k → ¬ r36 (tg s j) = 0) (Q := Sum.elim (fun _ => ∀ k, k < na s → ¬ r36 (tg s k) = 0) (fun _ => ∃ k, k < na s ∧ r36 (tg s k) = 0)) (fun y => (2000 - y.toInt).toNat) ?_ F _ ?_ ?_) ?_
  · rintro y ⟨k, k1, k2, k3⟩
    unfold bdX4_leadsOut_7
    refine sp_pos (mj_ib_of (by omega) (by omega)) ?_
    rw [hcx1]
    refine sp_ite (fun hz => sp_some ?_) (fun hz => ?_)
    · have := i_le.mp hz
      have : k = na s := by omega
      subst this
      exact k3
    · have hz2 : ¬ (r37 (s + 1)).toInt ≤ y.toInt := fun z => hz (i_le.mpr z)
      have hk : k < na s := by omega
      obtain ⟨t1, t2⟩ := a4 k hk
      have hcy : y.toNatClampNeg = fr s + k := by rw [i_cl, k2]; omega
      refine sp_pos (mj_ib_of (by omega) (by omega)) ?_
      rw [hcy]
      refine sp_pos (mj_ib_of (by omega) (by omega)) ?_
      have hct : (r38 (fr s + k)).toNatClampNeg = tg s k := by rw [i_cl, t1]; omega
      rw [hct]
      refine sp_ite (fun hq => sp_some ⟨k, hk, hq⟩) (fun hq => sp_some ⟨⟨k + 1, by omega, ?_, fun j hj => ?_⟩, ?_⟩)
      · rw [i_add (by omega) (by omega), k2, e1]; omega
      · by_cases hjk : j = k
        · rw [hjk]; exact hq
        · exact k3 j (by omega)
      · have : (y + 1).toInt = y.toInt + 1 := by rw [i_add (by omega) (by omega), e1]
        omega
  · exact ⟨0, by omega, by omega, fun j hj => absurd hj (Nat.not_lt_zero j)⟩
  · show (2000 - (r37 s).toInt).toNat < F
    omega
  · rintro (a | a) ha
    · exact sp_some ⟨fun _ => ha, fun z => absurd rfl z⟩
    · exact sp_some ⟨fun z => absurd z (by decide), fun _ => ha⟩
