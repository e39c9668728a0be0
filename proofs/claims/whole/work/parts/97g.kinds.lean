/-! ===== the text: which statement begins here ===== -/
def wK (i n : Nat) (r3 : Nat → Int32) (q : Nat) : Prop := match i with
  | 0 => isV n (bt r3) q
  | 1 => wd 4 0 n r3 q
  | 2 => wd 4 1 n r3 q
  | 3 => wd 2 2 n r3 q
  | 4 => wd 5 3 n r3 q
  | 5 => wd 7 4 n r3 q
  | 6 => wd 4 5 n r3 q
  | _ => False
/-- the first that stands at q -/
def kR (n : Nat) (r3 : Nat → Int32) (q : Nat) (i : Nat) : Prop := i < 7 ∧ wK i n r3 q ∧ ∀ j, j < i → ¬ wK j n r3 q
def nK (n : Nat) (r3 : Nat → Int32) (q : Nat) : Prop := ∀ j, j < 7 → ¬ wK j n r3 q
theorem x_1 {n q : Nat} {r3 : Nat → Int32} (z0 : ¬ wK 0 n r3 q) : ∀ j, j < 1 → ¬ wK j n r3 q := by
  intro j hj
  have h : j = 0 := by omega
  subst h
  exact z0
theorem x_2 {n q : Nat} {r3 : Nat → Int32} (z0 : ¬ wK 0 n r3 q) (z1 : ¬ wK 1 n r3 q) : ∀ j, j < 2 → ¬ wK j n r3 q := by
  intro j hj
  have h : j = 0 ∨ j = 1 := by omega
  rcases h with h | h
  · subst h; exact z0
  · subst h; exact z1
theorem x_3 {n q : Nat} {r3 : Nat → Int32} (z0 : ¬ wK 0 n r3 q) (z1 : ¬ wK 1 n r3 q) (z2 : ¬ wK 2 n r3 q) : ∀ j, j < 3 → ¬ wK j n r3 q := by
  intro j hj
  have h : j = 0 ∨ j = 1 ∨ j = 2 := by omega
  rcases h with h | h | h
  · subst h; exact z0
  · subst h; exact z1
  · subst h; exact z2
theorem x_4 {n q : Nat} {r3 : Nat → Int32} (z0 : ¬ wK 0 n r3 q) (z1 : ¬ wK 1 n r3 q) (z2 : ¬ wK 2 n r3 q) (z3 : ¬ wK 3 n r3 q) : ∀ j, j < 4 → ¬ wK j n r3 q := by
  intro j hj
  have h : j = 0 ∨ j = 1 ∨ j = 2 ∨ j = 3 := by omega
  rcases h with h | h | h | h
  · subst h; exact z0
  · subst h; exact z1
  · subst h; exact z2
  · subst h; exact z3
theorem x_5 {n q : Nat} {r3 : Nat → Int32} (z0 : ¬ wK 0 n r3 q) (z1 : ¬ wK 1 n r3 q) (z2 : ¬ wK 2 n r3 q) (z3 : ¬ wK 3 n r3 q) (z4 : ¬ wK 4 n r3 q) : ∀ j, j < 5 → ¬ wK j n r3 q := by
  intro j hj
  have h : j = 0 ∨ j = 1 ∨ j = 2 ∨ j = 3 ∨ j = 4 := by omega
  rcases h with h | h | h | h | h
  · subst h; exact z0
  · subst h; exact z1
  · subst h; exact z2
  · subst h; exact z3
  · subst h; exact z4
theorem x_6 {n q : Nat} {r3 : Nat → Int32} (z0 : ¬ wK 0 n r3 q) (z1 : ¬ wK 1 n r3 q) (z2 : ¬ wK 2 n r3 q) (z3 : ¬ wK 3 n r3 q) (z4 : ¬ wK 4 n r3 q) (z5 : ¬ wK 5 n r3 q) : ∀ j, j < 6 → ¬ wK j n r3 q := by
  intro j hj
  have h : j = 0 ∨ j = 1 ∨ j = 2 ∨ j = 3 ∨ j = 4 ∨ j = 5 := by omega
  rcases h with h | h | h | h | h | h
  · subst h; exact z0
  · subst h; exact z1
  · subst h; exact z2
  · subst h; exact z3
  · subst h; exact z4
  · subst h; exact z5
theorem x_7 {n q : Nat} {r3 : Nat → Int32} (z0 : ¬ wK 0 n r3 q) (z1 : ¬ wK 1 n r3 q) (z2 : ¬ wK 2 n r3 q) (z3 : ¬ wK 3 n r3 q) (z4 : ¬ wK 4 n r3 q) (z5 : ¬ wK 5 n r3 q) (z6 : ¬ wK 6 n r3 q) : ∀ j, j < 7 → ¬ wK j n r3 q := by
  intro j hj
  have h : j = 0 ∨ j = 1 ∨ j = 2 ∨ j = 3 ∨ j = 4 ∨ j = 5 ∨ j = 6 := by omega
  rcases h with h | h | h | h | h | h | h
  · subst h; exact z0
  · subst h; exact z1
  · subst h; exact z2
  · subst h; exact z3
  · subst h; exact z4
  · subst h; exact z5
  · subst h; exact z6
theorem kR_n {n q i : Nat} {r3 : Nat → Int32} (h : kR n r3 q i) : ¬ nK n r3 q := fun z => z i h.1 h.2.1
theorem s8_kind (F : Nat) (hF : 500 ≤ F) {n q : Nat} {r2 r3 : Nat → Int32} (hn : n ≤ 400) (ht : tk n r3 r2 q) : sp (fnX8_kindHere F r2 r3) (fun r => (nK n r3 q ∧ r = -1) ∨ ∃ i : Nat, kR n r3 q i ∧ r.toInt = (i : Nat)) := by
  have hV := s8_variable F hn ht
  unfold fnX8_kindHere
  by_cases z0 : wK 0 n r3 q
  · have z := z0.2.1
    have z' := z0.2.2.1
    unfold bt at z z'
    have e97 : (97 : Int32).toInt = 97 := rfl
    have ev : (r3 q - 97).toInt = (r3 q).toInt - 97 := by rw [i_sub (by omega) (by omega), e97]
    rw [(hV.1 z0).1, Option.bind_some, if_neg (fun y => by have := congrArg Int32.toInt y; rw [ev] at this; have e : (-1 : Int32).toInt = -1 := rfl; rw [e] at this; omega)]
    exact sp_some (.inr ⟨0, ⟨by omega, z0, fun j hj => absurd hj (by omega)⟩, rfl⟩)
  · rw [hV.2 z0, Option.bind_some, if_pos rfl]
    rw [e8_1]
    obtain ⟨r, hr, h1, h0⟩ := s8_wordC F hF (L := 4) (w := 0) (Lz := 4) (by omega) (by omega) rfl hn ht
    rw [hr, Option.bind_some]
    by_cases z1 : wK 1 n r3 q
    · rw [if_neg (by rw [h1 z1]; decide)]
      exact sp_some (.inr ⟨1, ⟨by omega, z1, x_1 z0⟩, rfl⟩)
    · rw [if_pos (h0 z1)]
      clear h1 h0 hr
      rw [e8_2]
      obtain ⟨r, hr, h1, h0⟩ := s8_wordC F hF (L := 4) (w := 1) (Lz := 4) (by omega) (by omega) rfl hn ht
      rw [hr, Option.bind_some]
      by_cases z2 : wK 2 n r3 q
      · rw [if_neg (by rw [h1 z2]; decide)]
        exact sp_some (.inr ⟨2, ⟨by omega, z2, x_2 z0 z1⟩, rfl⟩)
      · rw [if_pos (h0 z2)]
        clear h1 h0 hr
        rw [e8_3]
        obtain ⟨r, hr, h1, h0⟩ := s8_wordC F hF (L := 2) (w := 2) (Lz := 2) (by omega) (by omega) rfl hn ht
        rw [hr, Option.bind_some]
        by_cases z3 : wK 3 n r3 q
        · rw [if_neg (by rw [h1 z3]; decide)]
          exact sp_some (.inr ⟨3, ⟨by omega, z3, x_3 z0 z1 z2⟩, rfl⟩)
        · rw [if_pos (h0 z3)]
          clear h1 h0 hr
          rw [e8_4]
          obtain ⟨r, hr, h1, h0⟩ := s8_wordC F hF (L := 5) (w := 3) (Lz := 5) (by omega) (by omega) rfl hn ht
          rw [hr, Option.bind_some]
          by_cases z4 : wK 4 n r3 q
          · rw [if_neg (by rw [h1 z4]; decide)]
            exact sp_some (.inr ⟨4, ⟨by omega, z4, x_4 z0 z1 z2 z3⟩, rfl⟩)
          · rw [if_pos (h0 z4)]
            clear h1 h0 hr
            rw [e8_5]
            obtain ⟨r, hr, h1, h0⟩ := s8_wordC F hF (L := 7) (w := 4) (Lz := 7) (by omega) (by omega) rfl hn ht
            rw [hr, Option.bind_some]
            by_cases z5 : wK 5 n r3 q
            · rw [if_neg (by rw [h1 z5]; decide)]
              exact sp_some (.inr ⟨5, ⟨by omega, z5, x_5 z0 z1 z2 z3 z4⟩, rfl⟩)
            · rw [if_pos (h0 z5)]
              clear h1 h0 hr
              rw [e8_6]
              obtain ⟨r, hr, h1, h0⟩ := s8_wordC F hF (L := 4) (w := 5) (Lz := 4) (by omega) (by omega) rfl hn ht
              rw [hr, Option.bind_some]
              by_cases z6 : wK 6 n r3 q
              · rw [if_neg (by rw [h1 z6]; decide)]
                exact sp_some (.inr ⟨6, ⟨by omega, z6, x_6 z0 z1 z2 z3 z4 z5⟩, rfl⟩)
              · rw [if_pos (h0 z6)]
                refine sp_some (.inl ⟨x_7 z0 z1 z2 z3 z4 z5 z6, rfl⟩)
theorem s11_begins (F : Nat) (hF : 500 ≤ F) {n q : Nat} {r3 r71 r77 : Nat → Int32} (ht : tx n r3 r77) (hh : hQr n r3 r71 q) : sp (fnX11_begins F r71 r77) (fun o => (nK n r3 q → o.1 = 0) ∧ (¬ nK n r3 q → o.1 = 1) ∧ (o.2 10).toInt = (n : Nat) ∧ (o.2 11).toInt = (q : Nat) ∧ ∀ k, k ≠ 11 → o.2 k = r71 k) := by
  have hqn : q ≤ n := by obtain ⟨_, h, _, h3⟩ := hh; exact h3.2.1
  have hqb : q < n → ¬ isB (bt r3 q) := by obtain ⟨_, h, _, h3⟩ := hh; exact h3.2.2.2
  unfold fnX11_begins
  obtain ⟨o0, ho0, a1, a0, a2, a3, f0⟩ := s11_isName F hF ht hh
  rw [ho0, Option.bind_some]
  by_cases z0 : wK 0 n r3 q
  · rw [if_neg (by rw [a1 z0]; decide)]
    exact sp_some ⟨fun h => absurd z0 (h 0 (by omega)), fun _ => rfl, a2, a3, f0⟩
  · rw [if_pos (a0 z0)]
    clear a1 a0
    obtain ⟨o1, ho1, a1, a0, b2, b3, g1⟩ := s11_hereR F hF (L := 4) (w := 0) (Lz := 4) (by omega) (by omega) rfl ht (hQr_at a2 a3 hqn hqb)
    rw [e11_1, ho1, Option.bind_some]
    have f1 : ∀ k, k ≠ 11 → o1.2 k = r71 k := fun k hk => (g1 k hk).trans (f0 k hk)
    by_cases z1 : wK 1 n r3 q
    · rw [if_neg (by rw [a1 z1]; decide)]
      exact sp_some ⟨fun h => absurd z1 (h 1 (by omega)), fun _ => rfl, b2, b3, f1⟩
    · rw [if_pos (a0 z1)]
      clear a2 a3
      have a2 := b2
      have a3 := b3
      clear b2 b3
      clear a1 a0
      obtain ⟨o2, ho2, a1, a0, b2, b3, g2⟩ := s11_hereR F hF (L := 4) (w := 1) (Lz := 4) (by omega) (by omega) rfl ht (hQr_at a2 a3 hqn hqb)
      rw [e11_2, ho2, Option.bind_some]
      have f2 : ∀ k, k ≠ 11 → o2.2 k = r71 k := fun k hk => (g2 k hk).trans (f1 k hk)
      by_cases z2 : wK 2 n r3 q
      · rw [if_neg (by rw [a1 z2]; decide)]
        exact sp_some ⟨fun h => absurd z2 (h 2 (by omega)), fun _ => rfl, b2, b3, f2⟩
      · rw [if_pos (a0 z2)]
        clear a2 a3
        have a2 := b2
        have a3 := b3
        clear b2 b3
        clear a1 a0
        obtain ⟨o3, ho3, a1, a0, b2, b3, g3⟩ := s11_hereR F hF (L := 2) (w := 2) (Lz := 2) (by omega) (by omega) rfl ht (hQr_at a2 a3 hqn hqb)
        rw [e11_3, ho3, Option.bind_some]
        have f3 : ∀ k, k ≠ 11 → o3.2 k = r71 k := fun k hk => (g3 k hk).trans (f2 k hk)
        by_cases z3 : wK 3 n r3 q
        · rw [if_neg (by rw [a1 z3]; decide)]
          exact sp_some ⟨fun h => absurd z3 (h 3 (by omega)), fun _ => rfl, b2, b3, f3⟩
        · rw [if_pos (a0 z3)]
          clear a2 a3
          have a2 := b2
          have a3 := b3
          clear b2 b3
          clear a1 a0
          obtain ⟨o4, ho4, a1, a0, b2, b3, g4⟩ := s11_hereR F hF (L := 5) (w := 3) (Lz := 5) (by omega) (by omega) rfl ht (hQr_at a2 a3 hqn hqb)
          rw [e11_4, ho4, Option.bind_some]
          have f4 : ∀ k, k ≠ 11 → o4.2 k = r71 k := fun k hk => (g4 k hk).trans (f3 k hk)
          by_cases z4 : wK 4 n r3 q
          · rw [if_neg (by rw [a1 z4]; decide)]
            exact sp_some ⟨fun h => absurd z4 (h 4 (by omega)), fun _ => rfl, b2, b3, f4⟩
          · rw [if_pos (a0 z4)]
            clear a2 a3
            have a2 := b2
            have a3 := b3
            clear b2 b3
            clear a1 a0
            obtain ⟨o5, ho5, a1, a0, b2, b3, g5⟩ := s11_hereR F hF (L := 7) (w := 4) (Lz := 7) (by omega) (by omega) rfl ht (hQr_at a2 a3 hqn hqb)
            rw [e11_5, ho5, Option.bind_some]
            have f5 : ∀ k, k ≠ 11 → o5.2 k = r71 k := fun k hk => (g5 k hk).trans (f4 k hk)
            by_cases z5 : wK 5 n r3 q
            · rw [if_neg (by rw [a1 z5]; decide)]
              exact sp_some ⟨fun h => absurd z5 (h 5 (by omega)), fun _ => rfl, b2, b3, f5⟩
            · rw [if_pos (a0 z5)]
              clear a2 a3
              have a2 := b2
              have a3 := b3
              clear b2 b3
              clear a1 a0
              obtain ⟨o6, ho6, a1, a0, b2, b3, g6⟩ := s11_hereR F hF (L := 4) (w := 5) (Lz := 4) (by omega) (by omega) rfl ht (hQr_at a2 a3 hqn hqb)
              rw [e11_6, ho6, Option.bind_some]
              have f6 : ∀ k, k ≠ 11 → o6.2 k = r71 k := fun k hk => (g6 k hk).trans (f5 k hk)
              by_cases z6 : wK 6 n r3 q
              · rw [if_neg (by rw [a1 z6]; decide)]
                exact sp_some ⟨fun h => absurd z6 (h 6 (by omega)), fun _ => rfl, b2, b3, f6⟩
              · rw [if_pos (a0 z6)]
                clear a2 a3
                have a2 := b2
                have a3 := b3
                clear b2 b3
                exact sp_some ⟨fun _ => rfl, fun h => absurd (x_7 z0 z1 z2 z3 z4 z5 z6) h, a2, a3, f6⟩
