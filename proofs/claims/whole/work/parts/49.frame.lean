/-! ===== what a call on the states leaves ===== -/
def frG (F : Nat) (I I' : mj_IT) : Prop :=
  (∀ a, ¬ (32 ≤ a ∧ a ≤ 40) → ¬ (70 ≤ a ∧ a ≤ 72) → ¬ (80 ≤ a ∧ a ≤ 86) → I' a = I a) ∧
  (∀ k, k ≠ 0 → k ≠ 20 → k ≠ 21 → k ≠ 24 → k ≠ 25 → k ≠ 26 → I' 71 k = I 71 k) ∧ gQ F I' ∧
  ((I 32 1 = 1 ∧ rG I' = rG I ∧ (∀ f, rL I' f = rL I f) ∧ ∀ k, k ≠ 0 → I' 71 k = I 71 k) ∨ (I 32 1 = 0 ∧ I' 32 1 = 1 ∧ I' 32 0 = I 32 0 + 1) ∨ (I 32 1 = 0 ∧ rG I' = rG I))
theorem rL_eq {I' : mj_IT} {b : T8} {f : Nat → Int32} (h : rL I' f = (f, b.2)) (g : Nat → Int32) : rL I' g = (g, b.2) := by
  unfold rL at h ⊢
  rw [(Prod.mk.inj h).2]
theorem fr_go {F : Nat} {I I' : mj_IT} {a : T9} {b : T8} (hw1 : I 32 1 = 0 ∨ I 32 1 = 1) (hw3 : I 32 1 = 1 → I 71 20 = 1) (h : lQ I a b) (h1 : ∀ a, ¬ (32 ≤ a ∧ a ≤ 40) → ¬ (70 ≤ a ∧ a ≤ 72) → ¬ (80 ≤ a ∧ a ≤ 86) → I' a = I a) (h2 : rG I' = a) (h3 : rL I' (I' 71) = (I' 71, b.2)) (h5 : ∀ k, k ≠ 0 → I' 71 k = b.1 k) : frG F I I' := by
  obtain ⟨q0, q1, q2, q3, q4, q5, q6⟩ := h
  have e32 : I' 32 = a.1 := by rw [← h2]; rfl
  have e18 : I' 18 = I 18 := h1 18 (by decide) (by decide) (by decide)
  have i1 : I' 32 1 = 1 := by rw [e32]; exact q3
  have n1 : ¬ I' 32 1 = 0 := by rw [i1]; decide
  have i20 : I' 71 20 = 1 := (h5 20 (by decide)).trans q4
  refine ⟨h1, fun k k0 k1 k2 k3 k4 k5 => ?_, ⟨Or.inr i1, Or.inr i20, fun _ => ⟨i20, ?_⟩, fun z => absurd z n1⟩, ?_⟩
  · rw [h5 k k0, q5 k k1 k2 k3 k4 k5, upd_ne k0]
  · rw [h2, h3, e18]
    exact xG_congr (h5 4 (by decide)) (h5 21 (by decide)) (h5 24 (by decide)) (h5 25 (by decide)) q6
  · rcases hw1 with z | z
    · right; left
      exact ⟨z, i1, by rw [e32]; exact q2 z⟩
    · left
      have eb := q0 (hw3 z)
      refine ⟨z, h2.trans (q1 z), fun f => ?_, fun k k0 => ?_⟩
      · rw [rL_eq h3 f, eb]; rfl
      · rw [h5 k k0, eb]
        exact upd_ne k0
theorem fr_ref {F : Nat} {I I' : mj_IT} {a : T9} {b : T8} (hQ : gQ F I) (h : lQ I a b) (hly : lyG F I (rL I (upd (I 71) 0 0)) = some b) (h1 : ∀ a, ¬ (70 ≤ a ∧ a ≤ 72) → ¬ (80 ≤ a ∧ a ≤ 86) → I' a = I a) (h3 : rL I' (I' 71) = (I' 71, b.2)) (h5 : ∀ k, k ≠ 0 → I' 71 k = b.1 k) : frG F I I' := by
  obtain ⟨q0, q1, q2, q3, q4, q5, q6⟩ := h
  obtain ⟨w1, w2, w3, w4⟩ := hQ
  have eG : rG I' = rG I := by
    unfold rG
    rw [h1 32 (by decide) (by decide), h1 33 (by decide) (by decide), h1 34 (by decide) (by decide), h1 35 (by decide) (by decide), h1 36 (by decide) (by decide), h1 37 (by decide) (by decide), h1 38 (by decide) (by decide), h1 39 (by decide) (by decide), h1 40 (by decide) (by decide)]
  have e32 : I' 32 = I 32 := h1 32 (by decide) (by decide)
  have e18 : I' 18 = I 18 := h1 18 (by decide) (by decide)
  have eI : ∀ x, lyG F I' x = lyG F I x := by
    intro x
    unfold lyG
    rw [h1 73 (by decide) (by decide), h1 75 (by decide) (by decide), h1 87 (by decide) (by decide)]
  have i20 : I' 71 20 = 1 := (h5 20 (by decide)).trans q4
  refine ⟨fun a _ a2 a3 => h1 a a2 a3, fun k k0 k1 k2 k3 k4 k5 => ?_, ⟨by rw [e32]; exact w1, Or.inr i20, fun z => ⟨i20, ?_⟩, fun z _ => ?_⟩, ?_⟩
  · rw [h5 k k0, q5 k k1 k2 k3 k4 k5, upd_ne k0]
  · rw [e32] at z
    rw [h3, e18, eG, ← q1 z]
    exact xG_congr (h5 4 (by decide)) (h5 21 (by decide)) (h5 24 (by decide)) (h5 25 (by decide)) q6
  · rw [e32] at z
    have k4 : I' 71 4 = I 71 4 := by rw [h5 4 (by decide), q5 4 (by decide) (by decide) (by decide) (by decide) (by decide), upd_ne (by decide)]
    rcases w2 with y | y
    · refine ⟨rL I (upd (I 71) 0 0), b.1, ?_, ?_, ?_, ?_, ?_, ?_, ?_⟩
      · show upd (I 71) 0 0 20 = 0
        rw [upd_ne (by decide)]; exact y
      · show upd (I 71) 0 0 4 = I' 71 4
        rw [upd_ne (by decide), k4]
      · rw [eI, hly, rL_eq h3 b.1]
      · exact (h5 4 (by decide)).symm
      · exact (h5 21 (by decide)).symm
      · exact (h5 24 (by decide)).symm
      · exact (h5 25 (by decide)).symm
    · obtain ⟨x, g, x1, x2, x3, x4, x5, x6, x7⟩ := w4 z y
      have eb := q0 y
      have eb1 : ∀ k, k ≠ 0 → I' 71 k = I 71 k := fun k k0 => by rw [h5 k k0, eb]; exact upd_ne k0
      refine ⟨x, g, x1, x2.trans k4.symm, ?_, ?_, ?_, ?_, ?_⟩
      · rw [eI, x3, rL_eq h3 g, eb]
        rfl
      · rw [x4, eb1 4 (by decide)]
      · rw [x5, eb1 21 (by decide)]
      · rw [x6, eb1 24 (by decide)]
      · rw [x7, eb1 25 (by decide)]
  · rcases w1 with z | z
    · right; right
      exact ⟨z, eG⟩
    · left
      have eb := q0 (w3 z).1
      refine ⟨z, eG, fun f => ?_, fun k k0 => ?_⟩
      · rw [rL_eq h3 f, eb]; rfl
      · rw [h5 k k0, eb]
        exact upd_ne k0
