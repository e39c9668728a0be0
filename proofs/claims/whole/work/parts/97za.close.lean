/-! ===== the text: a block's owner is done ===== -/
theorem cons_eq {c c' : Nat → Nat → Int32} {d K : Nat} {B : Nat → Int} {C : Int} (h5 : c' 5 = c 5) (h13 : c' 13 = c 13) (h14 : c' 14 = c 14) (h16 : c' 16 = c 16) (h : Cons c' d K B C) : Cons c d K B C := by
  intro k hk
  have := h k hk
  unfold eb at this
  rw [h5, h13, h14, h16] at this
  exact this
theorem cl_first {c c' : Nat → Nat → Int32} {d K o : Nat} {first x : Int32} {r : Nat → Int32} (hs : stk c (d + 1) K) (hK4 : K ≤ 40) (ho : (c 15 (d + 1)).toInt = (o : Nat)) (h17 : c 17 (d + 1) = 0)
    (h5 : c' 5 = c 5) (h11 : c' 11 = c 11) (h12 : c' 12 = c 12) (h13 : c' 13 = c 13) (h14 : c' 14 = c 14) (h15 : c' 15 = c 15) (h16 : c' 16 = c 16) (hL : LK c r (d + 1) K) (hown : own_ c r (d + 1) K)
    (hx : ∀ B C, Cons c d K B C → rho B C x = (if c 5 (c 15 (d + 1)).toInt.toNat = 4 then (c 15 (d + 1)).toInt else B (c 15 (d + 1)).toInt.toNat))
    (hf : ∀ B C, Cons c d K B C → rho B C first = (if c 11 o = -1 then (if c 5 o = 4 then (o : Int) else B o) else (c 11 o).toInt)) :
    LK c' (upd (rE (c 16 (d + 1)) x K r) (12 * o + 3) first) d K := by
  intro B C hC' k hk hne
  have hC : Cons c d K B C := cons_eq h5 h13 h14 h16 hC'
  rw [h15] at hne
  refine lnk_c h5 h11 h12 ?_
  obtain ⟨p, p1, p2, p3, _⟩ := hs.2.1 (d + 1) (by omega) (Nat.le_refl _)
  have ep : p = o := by omega
  subst ep
  by_cases z : k = p
  · subst z
    obtain ⟨a1, a2⟩ := (hown (d + 1) (by omega) (Nat.le_refl _) k ho).1 h17
    unfold lnk
    rw [upd_at, upd_ne (by omega), hf B C hC, rE_rho hs hK4 hC (hx B C hC), a1, a2, rho_b B C ho (by omega), if_pos (rfl : (-1 : Int32) = -1)]
    have n6 : ¬ c 5 k = 6 := by rcases p3 with e | e | e <;> rw [e] <;> decide
    rw [if_neg n6]
    refine ⟨rfl, fun _ => rfl, fun y => ?_, fun y => ?_, fun _ => rfl⟩
    · rcases p3 with e | e | e <;> rw [e] at y <;> exact absurd y (by decide)
    · rcases p3 with e | e | e <;> rw [e] at y <;> exact absurd y (by decide)
  · have h := cl_lnk (x := x) hs hK4 hC hL (hx B C hC) hk (fun e he1 he2 w => by
      by_cases y : e = d + 1
      · rw [y, ho] at w
        omega
      · exact hne e he1 (by omega) w)
    unfold lnk at *
    rw [upd_ne (by omega), upd_ne (by omega)]
    exact h
