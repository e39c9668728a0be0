/-! ===== the text: an else block has closed ===== -/
theorem cl_second {c c' : Nat → Nat → Int32} {d K o : Nat} {second x : Int32} {r : Nat → Int32} (hs : stk c (d + 1) K) (hK4 : K ≤ 40) (ho : (c 15 (d + 1)).toInt = (o : Nat)) (h17 : c 17 (d + 1) = 1)
    (h5 : c' 5 = c 5) (h11 : c' 11 = c 11) (h12 : c' 12 = c 12) (h13 : c' 13 = c 13) (h14 : c' 14 = c 14) (h15 : c' 15 = c 15) (h16 : c' 16 = c 16) (hL : LK c r (d + 1) K) (hown : own_ c r (d + 1) K)
    (hx : ∀ B C, Cons c d K B C → rho B C x = (if c 5 (c 15 (d + 1)).toInt.toNat = 4 then (c 15 (d + 1)).toInt else B (c 15 (d + 1)).toInt.toNat))
    (hf : ∀ B C, Cons c d K B C → rho B C second = (if c 12 o = -1 then B o else (c 12 o).toInt)) :
    LK c' (upd (rE (c 16 (d + 1)) x K r) (12 * o + 4) second) d K := by
  intro B C hC' k hk hne
  have hC : Cons c d K B C := cons_eq h5 h13 h14 h16 hC'
  rw [h15] at hne
  refine lnk_c h5 h11 h12 ?_
  obtain ⟨p, p1, p2, p3, p4, p5, p6⟩ := hs.2.1 (d + 1) (by omega) (Nat.le_refl _)
  have ep : p = o := by omega
  subst ep
  by_cases z : k = p
  · subst z
    have a1 := (hown (d + 1) (by omega) (Nat.le_refl _) k ho).2 h17 B C (cons_close rfl rfl rfl rfl hC)
    have n4 : ¬ c 5 k = 4 := p6 h17
    have n6 : ¬ c 5 k = 6 := by rcases p3 with e | e | e <;> rw [e] <;> decide
    unfold lnk
    rw [upd_at, upd_ne (by omega), hf B C hC, rE_rho hs hK4 hC (hx B C hC), a1, if_neg n6, if_neg n4]
    refine ⟨rfl, fun _ => rfl, fun y => ?_, fun y => ?_, fun y => absurd p3 y⟩
    · rcases p3 with e | e | e <;> rw [e] at y <;> exact absurd y (by decide)
    · rcases p3 with e | e | e <;> rw [e] at y <;> exact absurd y (by decide)
  · have h := cl_lnk (x := x) hs hK4 hC hL (hx B C hC) hk (fun e he1 he2 w => by
      by_cases y : e = d + 1
      · rw [y, ho] at w
        omega
      · exact hne e he1 (by omega) w)
    unfold lnk at *
    rw [upd_ne (by omega), upd_ne (by omega)]
    exact h
