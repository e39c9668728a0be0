/-! ===== laying the states, in any call ===== -/
def rG (I : mj_IT) : T9 := (I 32, I 33, I 34, I 35, I 36, I 37, I 38, I 39, I 40)
def rL (I : mj_IT) (f : Nat → Int32) : T8 := (f, I 80, I 81, I 82, I 83, I 84, I 85, I 86)
def exG (F : Nat) (I : mj_IT) : Option T9 := fnX4_explore F (I 18) (I 19) (I 20) (I 21) (I 22) (I 23) (I 24) (I 25) (I 26) (I 32) (I 33) (I 34) (I 35) (I 36) (I 37) (I 38) (I 39) (I 40) (I 1 3)
def lyG (F : Nat) (I : mj_IT) (a : T8) : Option T8 := fnX11_lays F a.1 (I 73) (I 75) a.2.1 a.2.2.1 a.2.2.2.1 a.2.2.2.2.1 a.2.2.2.2.2.1 a.2.2.2.2.2.2.1 a.2.2.2.2.2.2.2 (I 87)
/-- the bond of the two graphs between calls -/
def gQ (F : Nat) (I : mj_IT) : Prop :=
  (I 32 1 = 0 ∨ I 32 1 = 1) ∧ (I 71 20 = 0 ∨ I 71 20 = 1) ∧
  (I 32 1 = 1 → I 71 20 = 1 ∧ xG (I 18 0).toInt (rG I) (rL I (I 71))) ∧
  (I 32 1 = 0 → I 71 20 = 1 → ∃ (a : T8) (g : Nat → Int32), a.1 20 = 0 ∧ a.1 4 = I 71 4 ∧ lyG F I a = some (rL I g) ∧ g 4 = I 71 4 ∧ g 21 = I 71 21 ∧ g 24 = I 71 24 ∧ g 25 = I 71 25)
theorem xG_congr {C : Int} {a : T9} {b : T8} {g : Nat → Int32} (h4 : g 4 = b.1 4) (h21 : g 21 = b.1 21) (h24 : g 24 = b.1 24) (h25 : g 25 = b.1 25) (h : xG C a b) : xG C a (g, b.2) := by
  rcases h with ⟨n, fr, na, tg, sh, h⟩ | h
  · left
    refine ⟨n, fr, na, tg, sh, ?_⟩
    unfold gG at h ⊢
    dsimp only at h ⊢
    rw [h4, h21, h24, h25]
    exact h
  · right
    unfold mny at h ⊢
    dsimp only
    rw [h21, h24]
    exact h
def lQ (I : mj_IT) (a : T9) (b : T8) : Prop := (I 71 20 = 1 → b = rL I (upd (I 71) 0 0)) ∧ (I 32 1 = 1 → a = rG I) ∧ (I 32 1 = 0 → a.1 0 = I 32 0 + 1) ∧ a.1 1 = 1 ∧ b.1 20 = 1 ∧ (∀ k, k ≠ 20 → k ≠ 21 → k ≠ 24 → k ≠ 25 → k ≠ 26 → b.1 k = upd (I 71) 0 0 k) ∧ xG (I 18 0).toInt a b
theorem gQ_go (F : Nat) (hF : 2100 ≤ F) {I : mj_IT} (hP : pK (I 18) (I 19) (I 20) (I 21) (I 22) (I 23) (I 24) (I 25) (I 26) (I 73)) (h4 : I 71 4 = I 18 0) (ht : tens (I 87)) (hv : vQ (I 1 3) (I 75)) (hQ : gQ F I) : sp2 (exG F I) (lyG F I (rL I (upd (I 71) 0 0))) (lQ I) := by
  obtain ⟨w1, w2, w3, w4⟩ := hQ
  rcases w1 with w1 | w1
  · have n1 : ¬ I 32 1 = 1 := by rw [w1]; decide
    rcases w2 with w2 | w2
    · refine sp2_mono (s2_explore F hF (r71 := upd (I 71) 0 0) hP (by rw [upd_ne (by decide)]; exact h4) ht hv w1 (by rw [upd_ne (by decide)]; exact w2)) ?_
      rintro a b ⟨p1, p2, p3, p4, p5⟩
      exact ⟨fun z => absurd (w2.symm.trans z) (by decide), fun z => absurd z n1, fun _ => p1, p2, p3, p4, p5⟩
    · obtain ⟨a, g, a1, a2, a3, a4, a5, a6, a7⟩ := w4 w1 w2
      obtain ⟨x, y, x1, y1, p1, p2, p3, p4, p5⟩ := s2_explore F hF (r71 := a.1) (r80 := a.2.1) (r81 := a.2.2.1) (r82 := a.2.2.2.1) (r83 := a.2.2.2.2.1) (r84 := a.2.2.2.2.2.1) (r85 := a.2.2.2.2.2.2.1) (r86 := a.2.2.2.2.2.2.2) hP (a2.trans h4) ht hv w1 a1
      have ey : y = rL I g := Option.some.inj (y1.symm.trans a3)
      subst ey
      refine ⟨x, rL I (upd (I 71) 0 0), x1, ?_, fun _ => rfl, fun z => absurd z n1, fun _ => p1, p2, ?_, fun _ _ _ _ _ _ => rfl, ?_⟩
      · unfold lyG fnX11_lays
        have : ¬ (rL I (upd (I 71) 0 0)).1 20 = 0 := by
          show ¬ upd (I 71) 0 0 20 = 0
          rw [upd_ne (by decide), w2]; decide
        rw [if_neg this]
      · show upd (I 71) 0 0 20 = 1
        rw [upd_ne (by decide)]; exact w2
      · refine xG_congr (g := upd (I 71) 0 0) (b := rL I g) ?_ ?_ ?_ ?_ p5
        · rw [upd_ne (by decide)]; exact a4.symm
        · rw [upd_ne (by decide)]; exact a5.symm
        · rw [upd_ne (by decide)]; exact a6.symm
        · rw [upd_ne (by decide)]; exact a7.symm
  · obtain ⟨w5, w6⟩ := w3 w1
    have n1 : ¬ I 32 1 = 0 := by rw [w1]; decide
    refine ⟨rG I, rL I (upd (I 71) 0 0), ?_, ?_, fun _ => rfl, fun _ => rfl, fun z => absurd z n1, w1, ?_, fun _ _ _ _ _ _ => rfl, ?_⟩
    · unfold exG fnX4_explore
      rw [if_neg n1]
      rfl
    · unfold lyG fnX11_lays
      have : ¬ (rL I (upd (I 71) 0 0)).1 20 = 0 := by
        show ¬ upd (I 71) 0 0 20 = 0
        rw [upd_ne (by decide), w5]; decide
      rw [if_neg this]
    · show upd (I 71) 0 0 20 = 1
      rw [upd_ne (by decide)]; exact w5
    · exact xG_congr (g := upd (I 71) 0 0) (b := rL I (I 71)) (upd_ne (by decide)) (upd_ne (by decide)) (upd_ne (by decide)) (upd_ne (by decide)) w6
