/-! ===== the text: the ways behind a statement ===== -/
def rJ (l y : Int32) (K : Nat) (r : Nat → Int32) : Nat → Int32 := if l = -1 then r else jnv (K + 1) (-100 - l) y r
theorem jnv_c {K l m : Nat} {x1 x2 v : Int32} {r : Nat → Int32} (hx : x1.toInt = (l : Nat)) (hl : l < 1000) (hv : -100 < v.toInt) (h : r m = v) : jnv K (-100 - x1) x2 r m = v := by
  have := i_100 hx hl
  rw [jnv_n (fun z => by rw [h] at z; rw [z] at hv; omega), h]
theorem lk_old {c c' : Nat → Nat → Int32} {d K : Nat} {i : Int32} {r74 r' : Nat → Int32} (hs : stk c d K) (hK : (c 4 0).toInt = (K : Nat)) (hK4 : K < 40)
    (h5 : c' 5 = bgn c d K i 5) (h11 : c' 11 = bgn c d K i 11) (h12 : c' 12 = bgn c d K i 12) (h13 : c' 13 = bgn c d K i 13) (h14 : c' 14 = bgn c d K i 14) (h16 : c' 16 = bgn c d K i 16)
    (hL : LK c r74 d K) (hr : ∀ k, k < K → r' (12 * k + 3) = rJ (c 16 d) (c 4 0) K r74 (12 * k + 3) ∧ r' (12 * k + 4) = rJ (c 16 d) (c 4 0) K r74 (12 * k + 4)) :
    ∀ B C, Cons c' d (K + 1) B C → ∀ k, k < K → (∀ e, 1 ≤ e → e ≤ d → ¬ (c 15 e).toInt = (k : Nat)) → lnk c' r' B C k := by
  intro B C hC k hk ho
  obtain ⟨hC1, hB⟩ := cons_bgn hs hK h5 h13 h14 h16 hC
  obtain ⟨l1, l2, l3, l4, l5⟩ := hL B C hC1 k hk ho
  obtain ⟨s1, s2, s3, s4⟩ := hs
  have e5 : c' 5 k = c 5 k := by rw [h5]; exact upd_ne (by omega)
  have own : c 15 d = -1 ∨ ∃ o : Nat, (c 15 d).toInt = (o : Nat) ∧ o ≠ k := by
    by_cases z : d = 0
    · rw [z]; exact .inl s1
    · obtain ⟨o, o1, o2, _⟩ := s2 d (by omega) (Nat.le_refl d)
      exact .inr ⟨o, o2, fun w => ho d (by omega) (Nat.le_refl d) (by rw [o2, w])⟩
  have e11 : c' 11 k = c 11 k := by
    rw [h11]
    show upd (bg11 (c 15 d) (c 16 d) (c 17 d) (c 4 0) (c 11)) K (-1) k = _
    rw [upd_ne (by omega)]
    unfold bg11
    rcases own with z | ⟨o, o1, o2⟩
    · rw [if_neg (fun w => w.2.1 z)]
    · split
      · rw [i_cl, o1]
        exact upd_ne (fun w => o2 (by rw [w]; rfl))
      · rfl
  have e12 : c' 12 k = c 12 k := by
    rw [h12]
    show upd (bg12 (c 15 d) (c 16 d) (c 17 d) (c 4 0) (c 12)) K (-1) k = _
    rw [upd_ne (by omega)]
    unfold bg12
    rcases own with z | ⟨o, o1, o2⟩
    · rw [if_neg (fun w => w.2.1 z)]
    · split
      · rw [i_cl, o1]
        exact upd_ne (fun w => o2 (by rw [w]; rfl))
      · rfl
  have hrho : ∀ m, rho B C (rJ (c 16 d) (c 4 0) K r74 m) = rho B C (r74 m) := fun m => by
    unfold rJ
    rcases s3 d (Nat.le_refl d) with y | ⟨l, m1, m2, _⟩
    · rw [if_pos y]
    · rw [if_neg (i_m1 m2), rho_j B C m2 (by omega) (by rw [rho_n B C (by omega), hK]; exact (hB l m1 m2).symm)]
  have hcon : ∀ m v, -100 < v.toInt → r74 m = v → rJ (c 16 d) (c 4 0) K r74 m = v := fun m v hv h => by
    unfold rJ
    rcases s3 d (Nat.le_refl d) with y | ⟨l, m1, m2, _⟩
    · rw [if_pos y]; exact h
    · rw [if_neg (i_m1 m2)]
      exact jnv_c m2 (by omega) hv h
  unfold lnk
  rw [e5, e11, e12, (hr k hk).1, (hr k hk).2, hrho, hrho]
  exact ⟨l1, l2, fun z => hcon _ _ (by decide) (l3 z), fun z => hcon _ _ (by decide) (l4 z), l5⟩
theorem lk_new {c c' : Nat → Nat → Int32} {d K : Nat} {i : Int32} {r' : Nat → Int32} (hK : (c 4 0).toInt = (K : Nat)) (hK4 : K < 40)
    (h5 : c' 5 = bgn c d K i 5) (h11 : c' 11 = bgn c d K i 11) (h12 : c' 12 = bgn c d K i 12)
    (hi : (i = 0 ∨ i = 1) ∧ r' (12 * K + 3) = -100 - c 4 0 ∧ r' (12 * K + 4) = -1 ∨ i = 5 ∧ r' (12 * K + 3) = -100 - c 4 0 ∧ r' (12 * K + 4) = -2 ∨ i = 6 ∧ r' (12 * K + 3) = -3 ∧ r' (12 * K + 4) = -1) (B : Nat → Int) (C : Int) : lnk c' r' B C K := by
  have e5 : c' 5 K = i := by rw [h5]; exact upd_at
  have e11 : c' 11 K = -1 := by rw [h11]; exact upd_at
  have e12 : c' 12 K = -1 := by rw [h12]; exact upd_at
  unfold lnk
  rw [e5, e11, e12, if_pos rfl]
  rcases hi with ⟨a | a, b1, b2⟩ | ⟨a, b1, b2⟩ | ⟨a, b1, b2⟩
  · rw [b1, b2, rho_b B C hK (by omega), a, if_neg (by decide), if_neg (by decide)]
    exact ⟨rfl, fun z => absurd z (by decide), fun z => absurd z (by decide), fun _ => rfl, fun _ => rfl⟩
  · rw [b1, b2, rho_b B C hK (by omega), a, if_neg (by decide), if_neg (by decide)]
    exact ⟨rfl, fun z => absurd z (by decide), fun z => absurd z (by decide), fun _ => rfl, fun _ => rfl⟩
  · rw [b1, b2, rho_b B C hK (by omega), a, if_neg (by decide), if_neg (by decide)]
    exact ⟨rfl, fun z => absurd z (by decide), fun _ => rfl, fun z => absurd z (by decide), fun _ => rfl⟩
  · rw [b1, b2, rho_3, a, if_pos rfl]
    exact ⟨rfl, fun z => absurd z (by decide), fun z => absurd z (by decide), fun _ => rfl, fun _ => rfl⟩
/-- a simple statement keeps the ways and the stack -/
theorem lk_simple {c c' : Nat → Nat → Int32} {d K : Nat} {i : Int32} {r74 r' : Nat → Int32} (hs : stk c d K) (hK : (c 4 0).toInt = (K : Nat)) (hK4 : K < 40)
    (h5 : c' 5 = bgn c d K i 5) (h11 : c' 11 = bgn c d K i 11) (h12 : c' 12 = bgn c d K i 12) (h13 : c' 13 = bgn c d K i 13) (h14 : c' 14 = bgn c d K i 14) (h15 : c' 15 = c 15) (h16 : c' 16 = bgn c d K i 16)
    (hL : LK c r74 d K) (hr : ∀ k, k < K → r' (12 * k + 3) = rJ (c 16 d) (c 4 0) K r74 (12 * k + 3) ∧ r' (12 * k + 4) = rJ (c 16 d) (c 4 0) K r74 (12 * k + 4))
    (hi : (i = 0 ∨ i = 1) ∧ r' (12 * K + 3) = -100 - c 4 0 ∧ r' (12 * K + 4) = -1 ∨ i = 5 ∧ r' (12 * K + 3) = -100 - c 4 0 ∧ r' (12 * K + 4) = -2 ∨ i = 6 ∧ r' (12 * K + 3) = -3 ∧ r' (12 * K + 4) = -1) : LK c' r' d (K + 1) := by
  intro B C hC k hk ho
  rw [h15] at ho
  by_cases z : k = K
  · rw [z]
    exact lk_new hK hK4 h5 h11 h12 hi B C
  · exact lk_old hs hK hK4 h5 h11 h12 h13 h14 h16 hL hr B C hC k (by omega) ho
