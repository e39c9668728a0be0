/-! ===== the text: assignments, draws ===== -/
theorem s2_k0 (rw_ : (Nat → Int32) → (Nat → Int32) → (Nat → Int32) → Int32 → Option ((Int32) × (Nat → Int32) × (Nat → Int32))) (F : Nat) (hF : 500 ≤ F) {n q k : Nat} {r2 r3 r6 r7 r8 r9 r10 r71 r77 s t : Nat → Int32} {x1 o4 : Int32} (hx : x1.toInt = (k : Nat)) (hk : k < 40) (ht : tx n r3 r77) (h : tE 401 n r3 r2 r71 q) (h8 : r2 8 = 0)
    (s10 : (s 10).toInt = (n : Nat)) (s11 : (s 11).toInt = (q : Nat)) (sf : ∀ k, k ≠ 11 → s k = r71 k) (t1 : ∀ j, j < 12 → t (12 * k + j) = -1) :
    sp2 ((fnX8_readVariable F r2 r3).bind (fun o20 => (fnX8_readSign F o20.2 r3 61).bind (fun o22 => (fnX8_readSum F o22 r3).bind (fun o23 => (fnX8_readSign F o23.2 r3 59).bind (fun o6 => some (o6, upd r6 k o20.1, r7, upd r8 k o23.1, r9, r10)))))) (rdK0 rw_ F r77 x1 s t o4) (stQ n r3 r2 r71 q k 0 r6 r7 r8 r9 r10 t o4 (-1)) := by
  have em1 : (-1 : Int32).toInt = -1 := rfl
  have hE : tE 401 n r3 r2 s q := ⟨h.1, s10, .inl ⟨h8, (sf 14 (by omega)).trans (tE_0 h h8).1, hQr_at s10 s11 h.1.2.2.1 h.1.2.2.2.1, tE_9 h h8⟩⟩
  unfold rdK0
  rw [if_pos (b_12 hx hk (show (0 : Int32).toInt = ((0 : Nat) : Int) from rfl) (by omega)),
    c_12 hx hk (show (0 : Int32).toInt = ((0 : Nat) : Int) from rfl) (by omega), c_12 hx hk (show (1 : Int32).toInt = ((1 : Nat) : Int) from rfl) (by omega), c_12 hx hk (show (3 : Int32).toInt = ((3 : Nat) : Int) from rfl) (by omega)]
  obtain ⟨a, b, ha, hb, ⟨q1, hE1, g1, g2, g3, g4⟩, hV⟩ := s2_variable F hF (by omega) ht hE
  rw [ha, hb, Option.bind_some, Option.bind_some, if_pos (b_12 hx hk (show (1 : Int32).toInt = ((1 : Nat) : Int) from rfl) (by omega))]
  obtain ⟨c, d, hc, hd, q2, hE2, p1, p2, p3, p4⟩ := s2_sign F hF (by omega) ht okS_61 hE1
  rw [hc, hd, Option.bind_some, Option.bind_some]
  obtain ⟨e, f, he, hf, ⟨q3, hE3, m1, m2, m3, m4⟩, ff, hS⟩ := s2_sum_ F hF (M := 401) (r74 := upd (upd (upd t (12 * k + 3) o4) (12 * k + 0) 0) (12 * k + 1) b.1) (by omega) (by omega) (i_12 hx hk (show (5 : Int32).toInt = ((5 : Nat) : Int) from rfl) (by omega)) (by omega) ht hE2
  rw [he, hf, Option.bind_some, Option.bind_some]
  obtain ⟨u, v, hu, hv, q4, hE4, l1, l2, l3, l4⟩ := s2_sign F hF (by omega) ht okS_59 hE3
  rw [hu, hv, Option.bind_some, Option.bind_some]
  have F2 : ∀ j, j < 12 * k + 5 ∨ 12 * k + 8 ≤ j → f.2 j = upd (upd (upd t (12 * k + 3) o4) (12 * k + 0) 0) (12 * k + 1) b.1 j := fun j hj => ff j (by omega) (by omega) (by omega)
  refine sp2_some ⟨tP_pre (rk_11 sf) (tP_c g1 g2 g3 g4 (tP_c p1 p2 p3 p4 (tP_c m1 m2 m3 m4 ⟨q4, hE4, l1, l2, l3, l4⟩))), fun j hj => ⟨upd_ne hj, rfl, upd_ne hj, rfl, rfl⟩, fun j hj => ?_, fun y => ?_⟩
  · show f.2 j = _
    rw [F2 j (by omega), upd_ne (by omega), upd_ne (by omega), upd_ne (by omega)]
  · have y3 := (l2 y).1
    have y2 := (m2 y3).1
    have y1 := (p2 y2).1
    have hv' := hV y1
    refine ⟨⟨?_, fun _ => ⟨?_, ?_⟩, fun z => absurd z (by omega), fun z => absurd z (by omega), fun z => absurd z (by omega), fun z => absurd z (by omega), fun _ => ?_, fun _ => ?_, fun z => absurd z (by omega)⟩, ?_, ?_⟩
    · show (f.2 _).toInt = _
      rw [F2 _ (by omega), upd_ne (by omega), upd_at0]
      rfl
    · show f.2 _ = upd r6 k a.1 k
      rw [F2 _ (by omega), upd_at, upd_at, hv'.1]
    · show vr (upd r6 k a.1 k)
      rw [upd_at]
      exact hv'.2
    · show (f.2 _).toInt = _
      rw [F2 _ (by omega), upd_ne (by omega), upd_ne (by omega), upd_ne (by omega), t1 2 (by omega), em1]
    · show sr (upd r8 k e.1 k) _ _ _
      rw [upd_at]
      exact hS y3
    · show f.2 _ = _
      rw [F2 _ (by omega), upd_ne (by omega), upd_ne (by omega), upd_at]
    · show f.2 _ = _
      rw [F2 _ (by omega), upd_ne (by omega), upd_ne (by omega), upd_ne (by omega), t1 4 (by omega)]
theorem s11_chance (F : Nat) {v : Int32} : (okN 1 v → fnX11_isChance F v = some 1) ∧ (¬ okN 1 v → fnX11_isChance F v = some 0) := by
  rw [okN1]
  unfold fnX11_isChance
  by_cases z : v < (2 : Int32)
  · have z' : v.toInt < 2 := i_lt.mp z
    rw [if_pos z, if_neg (fun y => by have : v.toInt = 10 := i_eq.mp y; omega)]
    exact ⟨fun y => absurd y (by omega), fun _ => rfl⟩
  · have z' : ¬ v.toInt < 2 := fun y => z (i_lt.mpr y)
    rw [if_neg z]
    by_cases w : v ≤ (6 : Int32)
    · have w' : v.toInt ≤ 6 := i_le.mp w
      rw [if_pos w]
      exact ⟨fun _ => rfl, fun y => absurd (by omega) y⟩
    · have w' : ¬ v.toInt ≤ 6 := fun y => w (i_le.mpr y)
      rw [if_neg w]
      by_cases x : v = (10 : Int32)
      · have x' : v.toInt = 10 := i_eq.mp x
        rw [if_pos x]
        exact ⟨fun _ => rfl, fun y => absurd (.inr x') y⟩
      · have x' : ¬ v.toInt = 10 := fun y => x (i_eq.mpr y)
        rw [if_neg x]
        exact ⟨fun y => absurd y (by omega), fun _ => rfl⟩
theorem s2_k1 (rw_ : (Nat → Int32) → (Nat → Int32) → (Nat → Int32) → Int32 → Option ((Int32) × (Nat → Int32) × (Nat → Int32))) (F : Nat) (hF : 500 ≤ F) {n q k : Nat} {r2 r3 r6 r7 r8 r9 r10 r71 r77 s t : Nat → Int32} {x1 o4 : Int32} (hx : x1.toInt = (k : Nat)) (hk : k < 40) (ht : tx n r3 r77) (h : tE 401 n r3 r2 r71 q) (h8 : r2 8 = 0) (hW : wd 4 0 n r3 q)
    (s10 : (s 10).toInt = (n : Nat)) (s11 : (s 11).toInt = ((q + 4 : Nat) : Int)) (sf : ∀ k, k ≠ 11 → s k = r71 k) (t1 : ∀ j, j < 12 → t (12 * k + j) = -1) :
    sp2 ((fnX8_goOn F r2 r3).bind (fun o18 => (fnX8_readBehindWord F o18 r3 r6 r7 r8 r9 r10 x1 1).bind (fun o19 => (fnX8_readSign F o19.1 r3 59).bind (fun o6 => some (o6, o19.2))))) (rdK1 rw_ F r77 x1 s t o4) (stQ n r3 r2 r71 q k 1 r6 r7 r8 r9 r10 t o4 (-1)) := by
  have em1 : (-1 : Int32).toInt = -1 := rfl
  have hib : mj_ib x1 40 = true := mj_ib_of (by omega) (by omega)
  have cx : x1.toNatClampNeg = k := by rw [i_cl, hx]; rfl
  have b0 := b_12 hx hk (show (0 : Int32).toInt = ((0 : Nat) : Int) from rfl) (by omega)
  have b1 := b_12 hx hk (show (1 : Int32).toInt = ((1 : Nat) : Int) from rfl) (by omega)
  have b2 := b_12 hx hk (show (2 : Int32).toInt = ((2 : Nat) : Int) from rfl) (by omega)
  refine sp2_bl (s8_pass F hF ht.1 (by omega) h h8 hW s10 s11 sf) ?_
  rintro a0 ⟨⟨q0, hE0, f1, f2, f3_, f4⟩, a8⟩
  unfold fnX8_readBehindWord rdK1
  rw [if_pos rfl, if_pos b0, c_12 hx hk (show (0 : Int32).toInt = ((0 : Nat) : Int) from rfl) (by omega), c_12 hx hk (show (1 : Int32).toInt = ((1 : Nat) : Int) from rfl) (by omega), c_12 hx hk (show (2 : Int32).toInt = ((2 : Nat) : Int) from rfl) (by omega), c_12 hx hk (show (3 : Int32).toInt = ((3 : Nat) : Int) from rfl) (by omega)]
  obtain ⟨a, b, ha, hb, ⟨q1, hE1, g1, g2, g3, g4⟩, hV⟩ := s2_variable F hF (by omega) ht hE0
  rw [ha, hb, Option.bind_some, Option.bind_some, if_pos hib, if_pos b1]
  obtain ⟨c, d, hc, hd, hN⟩ := s2_num F hF (x1 := 1) (by omega) (.inr (.inl rfl)) ht hE1
  rw [hc, hd, Option.bind_some, Option.bind_some, if_pos hib, Option.bind_some, if_pos b2, if_pos b2, cx, upd_at]
  have key : ∀ w : Nat → Int32, tP 401 n r3 a.2 b.2 q1 c.2 w → (c.2 8 = 0 → okN 1 d.1 ∧ 0 ≤ d.1.toInt ∧ c.1 = d.1) →
      sp2 ((fnX8_readSign F c.2 r3 59).bind (fun o6 => some (o6, upd r6 k a.1, upd r7 k c.1, r8, r9, r10))) ((fnX11_needs F w r77 59).bind (fun o49 => some (o49, upd (upd (upd (upd t (12 * k + 3) o4) (12 * k + 0) 1) (12 * k + 1) b.1) (12 * k + 2) d.1))) (stQ n r3 r2 r71 q k 1 r6 r7 r8 r9 r10 t o4 (-1)) := by
    rintro w ⟨q2, hE2, p1, p2, p3, p4⟩ hok
    obtain ⟨u, v, hu, hv, q4, hE4, l1, l2, l3, l4⟩ := s2_sign F hF (by omega) ht okS_59 hE2
    rw [hu, hv, Option.bind_some, Option.bind_some]
    refine sp2_some ⟨tP_c f1 f2 f3_ f4 (tP_c g1 g2 g3 g4 (tP_c p1 p2 p3 p4 ⟨q4, hE4, l1, l2, l3, l4⟩)), fun j hj => ⟨upd_ne hj, upd_ne hj, rfl, rfl, rfl⟩, fun j hj => ?_, fun y => ?_⟩
    · show upd _ _ _ j = _
      rw [upd_ne (by omega), upd_ne (by omega), upd_ne (by omega), upd_ne (by omega)]
    · have y2 := (l2 y).1
      have y1 := (p2 y2).1
      have hv' := hV y1
      obtain ⟨k1, k2, k3⟩ := hok y2
      refine ⟨⟨?_, fun _ => ⟨?_, ?_⟩, fun z => absurd z (by omega), fun _ => ?_, fun _ => ?_, fun z => absurd z (by omega), fun z => absurd (.inl rfl) z, fun z => absurd z (by omega), fun z => absurd z (by omega)⟩, ?_, ?_⟩
      · show (upd _ _ _ _).toInt = _
        rw [upd_ne (by omega), upd_ne (by omega), upd_at0]
        rfl
      · show upd _ _ _ _ = upd r6 k a.1 k
        rw [upd_ne (by omega), upd_at, upd_at, hv'.1]
      · show vr (upd r6 k a.1 k)
        rw [upd_at]
        exact hv'.2
      · show upd _ _ _ _ = upd r7 k c.1 k
        rw [upd_at, upd_at, k3]
      · show (2 ≤ (upd r7 k c.1 k).toInt ∧ (upd r7 k c.1 k).toInt ≤ 6) ∨ (upd r7 k c.1 k).toInt = 10
        rw [upd_at, k3]
        exact okN1.mp k1
      · show upd _ _ _ _ = _
        rw [upd_ne (by omega), upd_ne (by omega), upd_ne (by omega), upd_at]
      · show upd _ _ _ _ = _
        rw [upd_ne (by omega), upd_ne (by omega), upd_ne (by omega), upd_ne (by omega), t1 4 (by omega)]
  rcases hN with ⟨h1, h2, h3, h4, h5⟩ | ⟨h1, h2, h3, h4⟩ | ⟨h1, h2, h3⟩
  · rw [if_pos h1, (s11_chance F).1 h2, Option.bind_some, if_neg (show ¬ (1 : Int32) = 0 by decide)]
    exact key d.2 h4 (fun _ => ⟨h2, h3, h5⟩)
  · rw [if_pos h1, (s11_chance F).2 h2, Option.bind_some, if_pos rfl, s11_wrong0 F h1, Option.bind_some]
    exact key _ h3 (fun y => absurd y h4)
  · rw [if_neg (i_n0 h1)]
    exact key d.2 h2 (fun y => absurd y h3)
