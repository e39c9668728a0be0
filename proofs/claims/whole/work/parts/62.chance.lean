/-! ===== a chance changed ===== -/
theorem pK_up {r18 r19 r20 r21 r22 r23 r24 r25 r26 r73 : Nat → Int32} (h : pK r18 r19 r20 r21 r22 r23 r24 r25 r26 r73) {k : Nat} (hk : r19 k = 2) {y : Int32} (hy : 0 ≤ y.toInt ∧ y.toInt ≤ 60) : pK r18 r19 r20 (upd r21 k y) r22 r23 r24 r25 r26 (upd r73 (12 * k + 2) y) := by
  have e2 : (2 : Int32).toInt = 2 := rfl
  obtain ⟨P0, P1, P2⟩ := h
  refine ⟨P0, P1, fun u hu => ?_⟩
  have Q := P2 u hu
  have R : ∀ i, i ≠ 12 * k + 2 → upd r73 (12 * k + 2) y i = r73 i := fun i hi => upd_ne hi
  unfold pK1 at Q ⊢
  rw [R (12 * u) (by omega), R (12 * u + 1) (by omega), R (12 * u + 3) (by omega), R (12 * u + 4) (by omega), R (12 * u + 5) (by omega), R (12 * u + 6) (by omega), R (12 * u + 7) (by omega), R (12 * u + 8) (by omega), R (12 * u + 9) (by omega), R (12 * u + 10) (by omega), R (12 * u + 11) (by omega)]
  by_cases e : u = k
  · subst e
    obtain ⟨p1, p2, p3, p4, p5, p6, p7, p8, p9, p10, p11, p12, p13, p14, p15, p16, p17⟩ := Q
    rw [upd_at, upd_at]
    refine ⟨p1, p2, p3, p4, p5, p6, p7, p8, p9, p10, p11, fun _ => rfl, fun z => ?_, fun _ => hy, fun z => ?_, p16, p17⟩
    · rw [hk, e2] at z; omega
    · rw [hk, e2] at z; omega
  · rw [R (12 * u + 2) (by omega), upd_ne e]
    exact Q
