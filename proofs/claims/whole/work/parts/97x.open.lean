/-! ===== the text: behind '{' ===== -/
theorem lnk_c {c c' : Nat → Nat → Int32} {r : Nat → Int32} {B : Nat → Int} {C : Int} {k : Nat} (h5 : c' 5 = c 5) (h11 : c' 11 = c 11) (h12 : c' 12 = c 12) (h : lnk c r B C k) : lnk c' r B C k := by
  unfold lnk at *
  rw [h5, h11, h12]
  exact h
theorem op_state {c c' c2 : Nat → Nat → Int32} {d K : Nat} {i : Int32} {r74 r' : Nat → Int32} (hs : stk c d K) (hK : (c 4 0).toInt = (K : Nat)) (hK4 : K < 40) (hi : i = 2 ∨ i = 3 ∨ i = 4)
    (h5 : c' 5 = bgn c d K i 5) (h11 : c' 11 = bgn c d K i 11) (h12 : c' 12 = bgn c d K i 12) (h13 : c' 13 = bgn c d K i 13) (h14 : c' 14 = bgn c d K i 14) (h15 : c' 15 = c 15) (h16 : c' 16 = bgn c d K i 16) (h17 : c' 17 = c 17)
    (g5 : c2 5 = c' 5) (g11 : c2 11 = c' 11) (g12 : c2 12 = c' 12) (g13 : c2 13 = c' 13) (g14 : c2 14 = c' 14) (g15 : c2 15 = upd (c' 15) (d + 1) (c 4 0)) (g16 : c2 16 = upd (c' 16) (d + 1) (-1)) (g17 : c2 17 = upd (c' 17) (d + 1) 0)
    (hL : LK c r74 d K) (ho : own_ c r74 d K) (hr : ∀ j, j < 12 * K → r' j = rJ (c 16 d) (c 4 0) K r74 j) (hr4 : r' (12 * K + 4) = -100 - c 4 0) :
    stk c2 (d + 1) (K + 1) ∧ LK c2 r' (d + 1) (K + 1) ∧ own_ c2 r' (d + 1) (K + 1) := by
  have e16d : c' 16 d = c 4 0 := by rw [h16]; exact upd_at
  have e5K : c' 5 K = i := by rw [h5]; exact upd_at
  have e12K : c' 12 K = -1 := by rw [h12]; exact upd_at
  have hs' : stk c' d (K + 1) := stk_bgn hs hK h5 h13 h14 h15 h16 h17
  have hown := own_bgn hs hK hK4 h5 h11 h12 h13 h14 h15 h16 h17 hr ho
  refine ⟨stk_open (o := K) (w := 0) hs' (by omega) (by rw [e16d]; exact hK) (by rw [e5K]; exact hi) (.inl rfl) (fun z => absurd z (by decide)) g5 g13 g14 (by rw [g15, e16d]) g16 g17, ?_, ?_⟩
  · intro B C hC k hk hne
    have hC1 : Cons c' d (K + 1) B C := cons_open g5 g13 g14 g16 hC
    have hkK : k ≠ K := fun z => hne (d + 1) (by omega) (Nat.le_refl _) (by rw [g15, upd_at, hK, z])
    refine lnk_c g5 g11 g12 (lk_old hs hK hK4 h5 h11 h12 h13 h14 h16 hL (fun k hk => ⟨hr _ (by omega), hr _ (by omega)⟩) B C hC1 k (by omega) (fun e he1 he2 w => ?_))
    refine hne e he1 (by omega) ?_
    rw [g15, upd_ne (by omega), h15]
    exact w
  · intro e he1 he2 o hoe
    by_cases z : e = d + 1
    · subst z
      rw [g15, upd_at] at hoe
      have eo : o = K := by omega
      rw [eo, g17, g15, g12, upd_at, upd_at, e12K]
      exact ⟨fun _ => ⟨hr4, rfl⟩, fun y => absurd y (by decide)⟩
    · rw [g15, upd_ne z] at hoe
      obtain ⟨a, b⟩ := hown e he1 (by omega) o hoe
      rw [g17, g15, g12, g11, upd_ne z, upd_ne z]
      exact ⟨a, fun y B C hC => b y B C (cons_open g5 g13 g14 g16 hC)⟩
