/-! ===== the text: joins; a block closes ===== -/
/-- what joins makes of the ways: y becomes x in the first i statements -/
def jnv (i : Nat) (y x : Int32) (r : Nat → Int32) (m : Nat) : Int32 := if (m % 12 = 3 ∨ m % 12 = 4) ∧ m / 12 < i ∧ r m = y then x else r m
theorem jnv_o {i m : Nat} {y x : Int32} {r : Nat → Int32} (h : ¬ (m % 12 = 3 ∨ m % 12 = 4) ∨ i ≤ m / 12) : jnv i y x r m = r m := by
  unfold jnv
  rw [if_neg (fun z => by omega)]
theorem jnv_s {i m : Nat} {y x : Int32} {r : Nat → Int32} (h1 : m ≠ 12 * i + 3) (h2 : m ≠ 12 * i + 4) : jnv (i + 1) y x r m = jnv i y x r m := by
  unfold jnv
  by_cases a : (m % 12 = 3 ∨ m % 12 = 4) ∧ m / 12 < i ∧ r m = y
  · rw [if_pos a, if_pos ⟨a.1, by omega, a.2.2⟩]
  · rw [if_neg a, if_neg (fun z => a ⟨z.1, by omega, z.2.2⟩)]
theorem jnv_y {i m : Nat} {y x : Int32} {r : Nat → Int32} (h : m = 12 * i + 3 ∨ m = 12 * i + 4) (hy : r m = y) : jnv (i + 1) y x r m = x := by
  unfold jnv
  rw [if_pos ⟨by omega, by omega, hy⟩]
theorem jnv_n {i m : Nat} {y x : Int32} {r : Nat → Int32} (hy : ¬ r m = y) : jnv i y x r m = r m := by
  unfold jnv
  rw [if_neg (fun z => hy z.2.2)]
theorem s11_joins (F : Nat) (hF : 500 ≤ F) {K : Nat} {r71 r74 : Nat → Int32} {x1 x2 : Int32} (hK : (r71 5).toInt = (K : Nat)) (hK4 : K ≤ 40) : fnX11_joins F r71 r74 x1 x2 = some (jnv K (-100 - x1) x2 r74) := by
  unfold fnX11_joins
  have key : sp (mj_it (mj_u2 (fun z0 z1 => bdX11_joins_2 F r71 x1 x2 z0 z1)) F ((0 : Int32), r74)) (fun s => s = jnv K (-100 - x1) x2 r74) := by
    refine sp_cnt (fun s : Int32 × (Nat → Int32) => s.1) K (by omega) (fun i s => s.2 = jnv i (-100 - x1) x2 r74) ?_ F 0 _ (by omega) rfl ?_ (by omega)
    · rintro i ⟨x, s⟩ hi hx hcx hxs hJ
      refine sp_u2 ?_
      dsimp only at hx hcx hxs hJ
      unfold bdX11_joins_2
      refine sp_ite (fun hz => sp_some ?_) (fun hz => ?_)
      · have := i_le.mp hz
        have : i = K := by omega
        show s = _
        rw [hJ, this]
      · have hz' : ¬ (r71 5).toInt ≤ x.toInt := fun z => hz (i_le.mpr z)
        have hi' : i < K := by omega
        have b3 := b_12 hx (show i < 40 by omega) (show (3 : Int32).toInt = ((3 : Nat) : Int) from rfl) (by omega)
        have b4 := b_12 hx (show i < 40 by omega) (show (4 : Int32).toInt = ((4 : Nat) : Int) from rfl) (by omega)
        have c3 := c_12 hx (show i < 40 by omega) (show (3 : Int32).toInt = ((3 : Nat) : Int) from rfl) (by omega)
        have c4 := c_12 hx (show i < 40 by omega) (show (4 : Int32).toInt = ((4 : Nat) : Int) from rfl) (by omega)
        rw [if_pos b3, show fnX11_behind F x1 = some (-100 - x1) from rfl, Option.bind_some, c3, hJ]
        unfold jnX11_joins_41
        rw [if_pos b4, c4, show fnX11_behind F x1 = some (-100 - x1) from rfl, jnv_o (m := 12 * i + 3) (by omega)]
        simp only [Option.bind_some]
        by_cases y3 : r74 (12 * i + 3) = -100 - x1
        · rw [if_pos y3, if_pos b3, if_pos b4, upd_ne (by omega), jnv_o (m := 12 * i + 4) (by omega)]
          by_cases y4 : r74 (12 * i + 4) = -100 - x1
          · rw [if_pos y4]
            refine sp_some ⟨hi', rfl, ?_⟩
            funext m
            show upd _ _ _ m = _
            by_cases m4 : m = 12 * i + 4
            · rw [m4, upd_at, jnv_y (.inr rfl) y4]
            · rw [upd_ne m4]
              by_cases m3 : m = 12 * i + 3
              · rw [m3, upd_at, jnv_y (.inl rfl) y3]
              · rw [upd_ne m3, jnv_s m3 m4]
          · rw [if_neg y4]
            refine sp_some ⟨hi', rfl, ?_⟩
            funext m
            show upd _ _ _ m = _
            by_cases m3 : m = 12 * i + 3
            · rw [m3, upd_at, jnv_y (.inl rfl) y3]
            · rw [upd_ne m3]
              by_cases m4 : m = 12 * i + 4
              · rw [m4, jnv_n y4, jnv_n y4]
              · rw [jnv_s m3 m4]
        · rw [if_neg y3, if_pos b4, jnv_o (m := 12 * i + 4) (by omega)]
          by_cases y4 : r74 (12 * i + 4) = -100 - x1
          · rw [if_pos y4, if_pos b4]
            refine sp_some ⟨hi', rfl, ?_⟩
            funext m
            show upd _ _ _ m = _
            by_cases m4 : m = 12 * i + 4
            · rw [m4, upd_at, jnv_y (.inr rfl) y4]
            · rw [upd_ne m4]
              by_cases m3 : m = 12 * i + 3
              · rw [m3, jnv_n y3, jnv_n y3]
              · rw [jnv_s m3 m4]
          · rw [if_neg y4]
            refine sp_some ⟨hi', rfl, ?_⟩
            funext m
            show jnv _ _ _ _ m = _
            by_cases m4 : m = 12 * i + 4
            · rw [m4, jnv_n y4, jnv_n y4]
            · by_cases m3 : m = 12 * i + 3
              · rw [m3, jnv_n y3, jnv_n y3]
              · rw [jnv_s m3 m4]
    · funext m
      show r74 m = _
      rw [jnv_o (by omega)]
  rw [sp_eq key, Option.bind_some]
/-! a block closes -/
theorem tk_10 {n q : Nat} {r3 r2 : Nat → Int32} {v : Int32} (h : tk n r3 r2 q) : tk n r3 (upd r2 10 v) q := by
  have f : ∀ k, k ≠ 10 → upd r2 10 v k = r2 k := fun k k1 => upd_ne k1
  unfold tk
  rw [f 3 (by omega), f 4 (by omega), f 5 (by omega), f 6 (by omega), f 7 (by omega)]
  exact h
theorem s2_close (F : Nat) (hF : 500 ≤ F) {n q d : Nat} {r2 r3 r71 r77 : Nat → Int32} (ht : tx n r3 r77) (h : tE 401 n r3 r2 r71 q) (h8 : r2 8 = 0) (z : q < n ∧ r3 q = 125) (hd2 : (r2 10).toInt = ((d + 1 : Nat) : Int)) (hd : (r71 13).toInt = ((d + 1 : Nat) : Int)) (hd6 : d ≤ 6) :
    ∃ (o b : Nat → Int32) (q' : Nat), fnX8_goOn F (upd r2 10 (r2 10 - 1)) r3 = some o ∧ fnX11_needs F r71 r77 125 = some b ∧ tE 401 n r3 o (upd b 13 (b 13 - 1)) q' ∧ q < q' ∧ o 8 = 0 ∧ (o 10).toInt = (d : Nat) ∧ (upd b 13 (b 13 - 1) 13).toInt = (d : Nat) ∧
      (∀ k, k ≠ 4 → k ≠ 5 → k ≠ 6 → k ≠ 7 → k ≠ 8 → k ≠ 9 → k ≠ 10 → o k = r2 k) ∧ (∀ k, k ≠ 11 → k ≠ 12 → k ≠ 13 → k ≠ 14 → k ≠ 15 → upd b 13 (b 13 - 1) k = r71 k) := by
  have hn := ht.1
  have e1 : (1 : Int32).toInt = 1 := rfl
  obtain ⟨h14, hh⟩ := tE_0 h h8
  obtain ⟨o, ho, o1, o2, o3, o4⟩ := s11_takesY F hF ht h14 hh okS_125.2.2 z
  have h6 := s8_signEnd h.1 okS_125.1 okS_125.2.1 z
  have o13 : o.2 13 = r71 13 := o4 13 (by omega)
  have s13 : (r71 13 - 1).toInt = (d : Nat) := by rw [i_sub (by omega) (by omega), hd, e1]; omega
  have s10 : (r2 10 - 1).toInt = (d : Nat) := by rw [i_sub (by omega) (by omega), hd2, e1]; omega
  obtain ⟨a, ha, q', hE, g1, g2, g3, g4⟩ := s8_next F hF (M := 401) (r71 := upd o.2 13 (o.2 13 - 1)) (b := upd o.2 13 (o.2 13 - 1)) hn (tk_10 (v := r2 10 - 1) h.1) (by rw [upd_ne (by omega)]; exact h8) (by rw [upd_ne (by omega)]; exact tE_9 h h8) (by rw [upd_ne (by omega)]; exact h6) (by omega) (by omega) (by rw [upd_ne (by omega)]; exact o2) (by rw [upd_ne (by omega)]; exact o3) (by rw [upd_ne (by omega), o4 14 (by omega)]; exact h14) (rk_rf _)
  have a8 : a 8 = 0 := (tE_n hE).mpr (by rw [upd_ne (by omega), o4 14 (by omega)]; exact h14)
  refine ⟨a, o.2, q', ha, ?_, hE, (g2 a8).2, a8, ?_, ?_, fun k k1 k2 k3 k4 k5 k6 k7 => ?_, fun k k1 k2 k3 k4 k5 => ?_⟩
  · unfold fnX11_needs
    rw [if_pos h14, ho, Option.bind_some, if_neg (by rw [o1]; decide)]
  · rw [g3 10 (by omega) (by omega) (by omega) (by omega) (by omega) (by omega), upd_at]
    exact s10
  · rw [upd_at, o13]
    exact s13
  · rw [g3 k k1 k2 k3 k4 k5 k6, upd_ne k7]
  · rw [upd_ne k3, o4 k k1]
