/-! ===== the text: a block closes, in both ===== -/
def clM (c : Nat → Nat → Int32) (a a15 a16 a17 : Nat → Int32) (i : Nat) : Nat → Int32 := if i = 2 then a else if i = 15 then a15 else if i = 16 then a16 else if i = 17 then a17 else c i
theorem clM_j {c : Nat → Nat → Int32} {a a15 a16 a17 : Nat → Int32} {j : Nat} (h1 : j ≠ 2) (h2 : j ≠ 15) (h3 : j ≠ 16) (h4 : j ≠ 17) : clM c a a15 a16 a17 j = c j := by
  unfold clM
  rw [if_neg h1, if_neg h2, if_neg h3, if_neg h4]
theorem clM_s {c : Nat → Nat → Int32} {a : Nat → Int32} : ∀ j, j ≠ 2 → clM c a (c 15) (c 16) (c 17) j = c j := fun j hj => by
  unfold clM
  rw [if_neg hj]
  split
  · rename_i h; rw [h]
  · split
    · rename_i h; rw [h]
    · split
      · rename_i h; rw [h]
      · rfl
theorem b_cl (F : Nat) {n q d K : Nat} {r3 s r' a a15 a16 a17 : Nat → Int32} {x : Int32} {c : Nat → Nat → Int32} (hn : n ≤ 400) (hJ : aJ n r3 x c s r' q (d + 1) K) (hq : q < n) (h125 : r3 q = 125) (h : fnX8_closeBlock F (c 2) r3 (c 5) (c 15) (c 16) (c 17) = some (a, a15, a16, a17)) :
    ps_ F r3 x c (x + 1) (clM c a a15 a16 a17) := by
  obtain ⟨hE, h8, hd, hd2, hd6, hK, hK2, hK3, hx0, hxq, hs, hL, hc, how⟩ := hJ
  have h23 := hE.1.1
  refine ps_1 (b_cls F (fun y => ?_) h8 (i_lt.mpr (show (0 : Int) < (c 2 10).toInt by omega)) (fun y => ?_) ?_ h) hx0 (by omega)
  · have := i_lt.mp y
    omega
  · have : (c 2 10).toInt ≤ 0 := i_le.mp y
    omega
  · rw [s8_isSign F hn hE.1 okS_125.1 okS_125.2.1, if_pos ⟨hq, h125⟩]
theorem cl_tail (F : Nat) (hF : 500 ≤ F) {n q d K : Nat} {r3 r77 s r' : Nat → Int32} {x : Int32} {c : Nat → Nat → Int32} (ht : tx n r3 r77) (hJ : aJ n r3 x c s r' q (d + 1) K) (hq : q < n) (h125 : r3 q = 125) :
    ∃ (a b : Nat → Int32) (q' : Nat), fnX8_goOn F (upd (c 2) 10 (c 2 10 - 1)) r3 = some a ∧ fnX11_needs F s r77 125 = some b ∧ q < q' ∧ a 8 = 0 ∧ a 0 = c 2 0 ∧
      ∀ (c' : Nat → Nat → Int32) (r'' : Nat → Int32), c' 2 = a → (∀ j, j ≠ 2 → c' j = c j) → LK c' r'' d K → own_ c' r'' d K ∧ ur_ c' r'' d K → (∀ m, ¬ (m % 12 = 3 ∨ m % 12 = 4) → r'' m = r' m) → aJ n r3 (x + 1) c' (upd b 13 (b 13 - 1)) r'' q' d K := by
  have e1 : (1 : Int32).toInt = 1 := rfl
  obtain ⟨hE, h8, hd, hd2, hd6, hK, hK2, hK3, hx0, hxq, hs, hL, hc, how⟩ := hJ
  obtain ⟨a, b, q', g1, g2, g3, g4, g5, g6, g7, g8, g9⟩ := s2_close F hF (d := d) ht hE h8 ⟨hq, h125⟩ hd hd2 (by omega)
  have hn := ht.1
  refine ⟨a, b, q', g1, g2, g4, g5, g8 0 (by omega) (by omega) (by omega) (by omega) (by omega) (by omega) (by omega), fun c' r'' h2 hj hL' ho' hr => ⟨by rw [h2]; exact g3, by rw [h2]; exact g5, by rw [h2]; exact g6, g7, by omega, by rw [hj 4 (by omega)]; exact hK, ?_, hK3, ?_, ?_, stk_close hs (hj 5 (by omega)) (hj 13 (by omega)) (hj 14 (by omega)) (hj 15 (by omega)) (hj 16 (by omega)) (hj 17 (by omega)), hL', fun k hk => ?_, ho'⟩⟩
  · rw [g9 5 (by omega) (by omega) (by omega) (by omega) (by omega)]
    exact hK2
  · rw [i_add (by omega) (by omega), e1]
    omega
  · rw [i_add (by omega) (by omega), e1]
    omega
  · obtain ⟨i, i1, i2, i3, i4⟩ := hc k hk
    rw [hj 5 (by omega), hj 6 (by omega), hj 7 (by omega), hj 8 (by omega), hj 9 (by omega), hj 10 (by omega), hj 11 (by omega), hj 12 (by omega), hj 14 (by omega)]
    exact ⟨i, i1, i2, pC_eq i3 (fun m m1 m2 m3 => hr _ (by omega)), i4⟩
theorem own_up {c : Nat → Nat → Int32} {r : Nat → Int32} {d K o j : Nat} {v : Int32} (hne : ∀ e, 1 ≤ e → e ≤ d → ¬ (c 15 e).toInt = (o : Nat)) (hj : j = 3 ∨ j = 4) (h : own_ c r d K) : own_ c (upd r (12 * o + j) v) d K := by
  intro e he1 he2 p hp
  obtain ⟨a, b⟩ := h e he1 he2 p hp
  have hpo : p ≠ o := fun w => hne e he1 he2 (by rw [hp, w])
  exact ⟨fun z => ⟨by rw [upd_ne (by omega)]; exact (a z).1, (a z).2⟩, fun z B C hC => by rw [upd_ne (by omega)]; exact b z B C hC⟩
theorem own_c {c c' : Nat → Nat → Int32} {r : Nat → Int32} {d K : Nat} (hj : ∀ j, j ≠ 2 → c' j = c j) (h : own_ c r d K) : own_ c' r d K := by
  intro e he1 he2 p hp
  rw [hj 15 (by omega)] at hp
  obtain ⟨a, b⟩ := h e he1 he2 p hp
  rw [hj 15 (by omega), hj 17 (by omega), hj 12 (by omega), hj 11 (by omega)]
  exact ⟨a, fun z B C hC => b z B C (cons_eq (hj 5 (by omega)) (hj 13 (by omega)) (hj 14 (by omega)) (hj 16 (by omega)) hC)⟩
theorem rE_o {l x : Int32} {K m : Nat} {r : Nat → Int32} (h : ¬ (m % 12 = 3 ∨ m % 12 = 4)) : rE l x K r m = r m := by
  unfold rE
  split
  · rfl
  · exact jnv_o (.inl h)
theorem own_ne {c : Nat → Nat → Int32} {d K o : Nat} (hs : stk c (d + 1) K) (ho : (c 15 (d + 1)).toInt = (o : Nat)) : ∀ e, 1 ≤ e → e ≤ d → ¬ (c 15 e).toInt = (o : Nat) := by
  intro e he1 he2 w
  have := stk_lt hs (d - e) e (by omega)
  rw [show e + (d - e) + 1 = d + 1 by omega] at this
  omega
theorem cl_x {c : Nat → Nat → Int32} {d o : Nat} {x1 : Int32} (ho : (c 15 (d + 1)).toInt = (o : Nat)) (ho4 : o < 1000) (hx1 : c 5 o = 4 ∧ x1 = c 15 (d + 1) ∨ ¬ c 5 o = 4 ∧ x1 = -100 - c 15 (d + 1)) (B : Nat → Int) (C : Int) : rho B C x1 = (if c 5 (c 15 (d + 1)).toInt.toNat = 4 then (c 15 (d + 1)).toInt else B (c 15 (d + 1)).toInt.toNat) := by
  rw [ho, Int.toNat_natCast]
  rcases hx1 with ⟨h1, h2⟩ | ⟨h1, h2⟩
  · rw [if_pos h1, h2, rho_n B C (by omega), ho]
  · rw [if_neg h1, h2, rho_b B C ho ho4]
theorem ur_cl {c : Nat → Nat → Int32} {d K : Nat} {x : Int32} {r : Nat → Int32} (hs : stk c (d + 1) K) (hK4 : K ≤ 40) (hx : x = -100 - c 15 (d + 1) ∨ 0 ≤ x.toInt) (h : ur_ c r (d + 1) K) : ur_ c (rE (c 16 (d + 1)) x K r) d K := by
  intro k m hk hm hv
  obtain ⟨o, o1, o2, o3, o4, _⟩ := hs.2.1 (d + 1) (by omega) (Nat.le_refl _)
  have o4 : c 16 d = c 15 (d + 1) := o4
  unfold rE at hv ⊢
  rcases hs.2.2.1 (d + 1) (Nat.le_refl _) with y | ⟨l, l1, l2, _⟩
  · rw [if_pos y] at hv ⊢
    obtain ⟨e, p, q1, q2, q3⟩ := h k m hk hm hv
    have ne : e ≠ d + 1 := fun w => by rw [w] at q2; exact i_m1 q2 y
    exact ⟨e, p, by omega, q2, q3⟩
  · rw [if_neg (i_m1 l2)] at hv ⊢
    by_cases z : r (12 * k + m) = -100 - c 16 (d + 1)
    · rw [show jnv K (-100 - c 16 (d + 1)) x r (12 * k + m) = x from by unfold jnv; rw [if_pos ⟨by omega, by omega, z⟩]] at hv ⊢
      rcases hx with w | w
      · exact ⟨d, o, Nat.le_refl d, by rw [o4]; exact o2, by rw [w]; exact i_100 o2 (by omega)⟩
      · omega
    · rw [jnv_n z] at hv ⊢
      obtain ⟨e, p, q1, q2, q3⟩ := h k m hk hm hv
      have ne : e ≠ d + 1 := fun w => by
        rw [w] at q2
        refine z (i_eq.mpr ?_)
        rw [i_100 l2 (by omega), q3]
        omega
      exact ⟨e, p, by omega, q2, q3⟩
theorem ur_up {c c' : Nat → Nat → Int32} {d K o j : Nat} {v : Int32} {r : Nat → Int32} (hs : stk c (d + 1) K) (hK4 : K ≤ 40) (h16 : c' 16 = c 16) (hv : v = -100 - c 15 (d + 1) ∨ 0 ≤ v.toInt) (h : ur_ c r d K) : ur_ c' (upd r (12 * o + j) v) d K := by
  intro k m hk hm hq
  obtain ⟨p, o1, o2, o3, o4, _⟩ := hs.2.1 (d + 1) (by omega) (Nat.le_refl _)
  have o4 : c 16 d = c 15 (d + 1) := o4
  rw [h16]
  by_cases z : 12 * k + m = 12 * o + j
  · rw [z, upd_at] at hq ⊢
    rcases hv with w | w
    · exact ⟨d, p, Nat.le_refl d, by rw [o4]; exact o2, by rw [w]; exact i_100 o2 (by omega)⟩
    · omega
  · rw [upd_ne z] at hq ⊢
    exact h k m hk hm hq
/-- the first block closes -/
theorem cl_1 (F : Nat) (hF : 500 ≤ F) {n q d K o : Nat} {r3 r77 s r' : Nat → Int32} {x x1 x2 : Int32} {c : Nat → Nat → Int32} (ht : tx n r3 r77) (hJ : aJ n r3 x c s r' q (d + 1) K) (hq : q < n) (h125 : r3 q = 125) (ho : (c 15 (d + 1)).toInt = (o : Nat)) (h17 : c 17 (d + 1) = 0) (hcd : cd_ (d + 1) x2 c)
    (hx1 : c 5 o = 4 ∧ x1 = c 15 (d + 1) ∨ ¬ c 5 o = 4 ∧ x1 = -100 - c 15 (d + 1)) :
    ∃ (a b : Nat → Int32) (q' : Nat), fnX8_goOn F (upd (c 2) 10 (c 2 10 - 1)) r3 = some a ∧ fnX11_needs F s r77 125 = some b ∧ q < q' ∧ a 8 = 0 ∧ a 0 = c 2 0 ∧
      ∀ (c' : Nat → Nat → Int32), c' 2 = a → (∀ j, j ≠ 2 → c' j = c j) → aJ n r3 (x + 1) c' (upd b 13 (b 13 - 1)) (upd (rE (c 16 (d + 1)) x1 K r') (12 * o + 3) (if x2 = -1 then x1 else x2)) q' d K := by
  obtain ⟨a, b, q', g1, g2, g3, g4, g5, g6⟩ := cl_tail F hF ht hJ hq h125
  obtain ⟨hE, h8, hd, hd2, hd6, hK, hK2, hK3, hx0, hxq, hs, hL, hc, how⟩ := hJ
  obtain ⟨p, p1, p2, _⟩ := hs.2.1 (d + 1) (by omega) (Nat.le_refl _)
  have ep : p = o := by omega
  subst ep
  have hx := cl_x (c := c) (d := d) (x1 := x1) ho (by omega) hx1
  refine ⟨a, b, q', g1, g2, g3, g4, g5, fun c' h2 hj => g6 c' _ h2 hj ?_ ?_ (fun m hm => ?_)⟩
  · refine cl_first hs hK3 ho h17 (hj 5 (by omega)) (hj 11 (by omega)) (hj 12 (by omega)) (hj 13 (by omega)) (hj 14 (by omega)) (hj 15 (by omega)) (hj 16 (by omega)) hL how.1 (fun B C _ => hx B C) (fun B C _ => ?_)
    have h11 : c 11 p = x2 := (hcd.2.2 (by omega) p ho).1 h17
    rw [h11]
    by_cases z : x2 = -1
    · rw [if_pos z, if_pos z, hx B C, ho, Int.toNat_natCast]
    · rw [if_neg z, if_neg z, rho_n B C (hcd.2.1.resolve_left z)]
  · have hx0' : x1 = -100 - c 15 (d + 1) ∨ 0 ≤ x1.toInt := by
      rcases hx1 with w | w
      · exact .inr (by rw [w.2, ho]; omega)
      · exact .inl w.2
    refine ⟨own_c hj (own_up (own_ne hs ho) (.inl rfl) (cl_own hs hK3 how.1 (fun B C _ => hx B C))), ur_up hs hK3 (hj 16 (by omega)) ?_ (ur_cl hs hK3 hx0' how.2)⟩
    by_cases z : x2 = -1
    · rw [if_pos z]
      exact hx0'
    · rw [if_neg z]
      exact .inr (hcd.2.1.resolve_left z)
  · rw [upd_ne (by omega), rE_o hm]
/-- an else block closes -/
theorem cl_2 (F : Nat) (hF : 500 ≤ F) {n q d K o : Nat} {r3 r77 s r' : Nat → Int32} {x x2 : Int32} {c : Nat → Nat → Int32} (ht : tx n r3 r77) (hJ : aJ n r3 x c s r' q (d + 1) K) (hq : q < n) (h125 : r3 q = 125) (ho : (c 15 (d + 1)).toInt = (o : Nat)) (h17 : c 17 (d + 1) = 1) (hcd : cd_ (d + 1) x2 c) :
    ∃ (a b : Nat → Int32) (q' : Nat), fnX8_goOn F (upd (c 2) 10 (c 2 10 - 1)) r3 = some a ∧ fnX11_needs F s r77 125 = some b ∧ q < q' ∧ a 8 = 0 ∧ a 0 = c 2 0 ∧
      ∀ (c' : Nat → Nat → Int32), c' 2 = a → (∀ j, j ≠ 2 → c' j = c j) → aJ n r3 (x + 1) c' (upd b 13 (b 13 - 1)) (upd (rE (c 16 (d + 1)) (-100 - c 15 (d + 1)) K r') (12 * o + 4) (if x2 = -1 then -100 - c 15 (d + 1) else x2)) q' d K := by
  obtain ⟨a, b, q', g1, g2, g3, g4, g5, g6⟩ := cl_tail F hF ht hJ hq h125
  obtain ⟨hE, h8, hd, hd2, hd6, hK, hK2, hK3, hx0, hxq, hs, hL, hc, how⟩ := hJ
  obtain ⟨p, p1, p2, p3, p4, p5, p6⟩ := hs.2.1 (d + 1) (by omega) (Nat.le_refl _)
  have ep : p = o := by omega
  subst ep
  have hx := cl_x (c := c) (d := d) (x1 := -100 - c 15 (d + 1)) ho (by omega) (.inr ⟨p6 h17, rfl⟩)
  refine ⟨a, b, q', g1, g2, g3, g4, g5, fun c' h2 hj => g6 c' _ h2 hj ?_ ?_ (fun m hm => ?_)⟩
  · refine cl_second hs hK3 ho h17 (hj 5 (by omega)) (hj 11 (by omega)) (hj 12 (by omega)) (hj 13 (by omega)) (hj 14 (by omega)) (hj 15 (by omega)) (hj 16 (by omega)) hL how.1 (fun B C _ => hx B C) (fun B C _ => ?_)
    have h12 : c 12 p = x2 := (hcd.2.2 (by omega) p ho).2 h17
    rw [h12]
    by_cases z : x2 = -1
    · rw [if_pos z, if_pos z, rho_b B C ho (by omega)]
    · rw [if_neg z, if_neg z, rho_n B C (hcd.2.1.resolve_left z)]
  · refine ⟨own_c hj (own_up (own_ne hs ho) (.inr rfl) (cl_own hs hK3 how.1 (fun B C _ => hx B C))), ur_up hs hK3 (hj 16 (by omega)) ?_ (ur_cl hs hK3 (.inl rfl) how.2)⟩
    by_cases z : x2 = -1
    · rw [if_pos z]
      exact .inl rfl
    · rw [if_neg z]
      exact .inr (hcd.2.1.resolve_left z)
  · rw [upd_ne (by omega), rE_o hm]
