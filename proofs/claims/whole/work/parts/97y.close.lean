/-! ===== the text: behind '}' ===== -/
/-- the row's end: the last statement leads to x -/
def rE (l x : Int32) (K : Nat) (r : Nat → Int32) : Nat → Int32 := if l = -1 then r else jnv K (-100 - l) x r
theorem rE_rho {c : Nat → Nat → Int32} {d K : Nat} {x : Int32} {r : Nat → Int32} {B : Nat → Int} {C : Int} (hs : stk c (d + 1) K) (hK4 : K ≤ 40) (hC : Cons c d K B C)
    (hx : rho B C x = (if c 5 (c 15 (d + 1)).toInt.toNat = 4 then (c 15 (d + 1)).toInt else B (c 15 (d + 1)).toInt.toNat)) (m : Nat) : rho B C (rE (c 16 (d + 1)) x K r m) = rho B C (r m) := by
  unfold rE
  rcases hs.2.2.1 (d + 1) (Nat.le_refl _) with y | ⟨l, l1, l2, _⟩
  · rw [if_pos y]
  · rw [if_neg (i_m1 l2), rho_j B C l2 (by omega) (by rw [hx]; exact (last_end hs l1 l2 hC).symm)]
theorem rE_con {c : Nat → Nat → Int32} {d K : Nat} {x v : Int32} {r : Nat → Int32} (hs : stk c (d + 1) K) (hK4 : K ≤ 40) {m : Nat} (hv : -100 < v.toInt) (h : r m = v) : rE (c 16 (d + 1)) x K r m = v := by
  unfold rE
  rcases hs.2.2.1 (d + 1) (Nat.le_refl _) with y | ⟨l, l1, l2, _⟩
  · rw [if_pos y]; exact h
  · rw [if_neg (i_m1 l2)]
    exact jnv_c l2 (by omega) hv h
theorem cl_lnk {c : Nat → Nat → Int32} {d K : Nat} {x : Int32} {r : Nat → Int32} {B : Nat → Int} {C : Int} (hs : stk c (d + 1) K) (hK4 : K ≤ 40) (hC : Cons c d K B C) (hL : LK c r (d + 1) K)
    (hx : rho B C x = (if c 5 (c 15 (d + 1)).toInt.toNat = 4 then (c 15 (d + 1)).toInt else B (c 15 (d + 1)).toInt.toNat)) {k : Nat} (hk : k < K) (hne : ∀ e, 1 ≤ e → e ≤ d + 1 → ¬ (c 15 e).toInt = (k : Nat)) : lnk c (rE (c 16 (d + 1)) x K r) B C k := by
  obtain ⟨l1, l2, l3, l4, l5⟩ := hL B C (cons_close rfl rfl rfl rfl hC) k hk hne
  unfold lnk
  rw [rE_rho hs hK4 hC hx, rE_rho hs hK4 hC hx]
  exact ⟨l1, l2, fun z => rE_con hs hK4 (by decide) (l3 z), fun z => rE_con hs hK4 (by decide) (l4 z), l5⟩
theorem cl_own {c : Nat → Nat → Int32} {d K : Nat} {x : Int32} {r : Nat → Int32} (hs : stk c (d + 1) K) (hK4 : K ≤ 40) (ho : own_ c r (d + 1) K)
    (hx : ∀ B C, Cons c d K B C → rho B C x = (if c 5 (c 15 (d + 1)).toInt.toNat = 4 then (c 15 (d + 1)).toInt else B (c 15 (d + 1)).toInt.toNat)) : own_ c (rE (c 16 (d + 1)) x K r) d K := by
  intro e he1 he2 o hoe
  obtain ⟨a, b⟩ := ho e he1 (by omega) o hoe
  refine ⟨fun z => ⟨?_, (a z).2⟩, fun z B C hC => ?_⟩
  · have ha := (a z).1
    obtain ⟨p, p1, p2, _, p4, _⟩ := hs.2.1 e he1 (by omega)
    have ep : p = o := by omega
    subst ep
    unfold rE
    rcases hs.2.2.1 (d + 1) (Nat.le_refl _) with y | ⟨l, l1, l2, _⟩
    · rw [if_pos y]; exact ha
    · rw [if_neg (i_m1 l2), jnv_n (fun w => by
        rw [ha] at w
        have w' := congrArg Int32.toInt w
        rw [i_100 p2 (by omega), i_100 l2 (by omega)] at w'
        exact stk_ne hs (show e - 1 < d + 1 by omega) p1 (by rw [p4]; exact p2) (by rw [l2]; omega))]
      exact ha
  · rw [rE_rho hs hK4 hC (hx B C hC)]
    exact b z B C (cons_close rfl rfl rfl rfl hC)
