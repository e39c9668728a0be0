/-! ===== the text: the statements without a block ===== -/
/-- what both hold of a statement read, its ways aside -/
def pC (i k : Nat) (v6 v7 v8 v9 v10 : Int32) (r74 : Nat → Int32) : Prop :=
  (r74 (12 * k)).toInt = (i : Nat) ∧ (i ≤ 1 → r74 (12 * k + 1) = v6 ∧ vr v6) ∧ (1 < i → (r74 (12 * k + 1)).toInt = -1) ∧
  (i = 1 ∨ i = 2 → r74 (12 * k + 2) = v7) ∧ (i = 1 → (2 ≤ v7.toInt ∧ v7.toInt ≤ 6) ∨ v7.toInt = 10) ∧ (i = 2 → 0 ≤ v7.toInt ∧ v7.toInt ≤ 60) ∧ (¬ (i = 1 ∨ i = 2) → (r74 (12 * k + 2)).toInt = -1) ∧
  (i = 0 ∨ (3 ≤ i ∧ i ≤ 5) → sr v8 (r74 (12 * k + 5)) (r74 (12 * k + 6)) (r74 (12 * k + 7))) ∧
  (3 ≤ i ∧ i ≤ 5 → sr v10 (r74 (12 * k + 8)) (r74 (12 * k + 9)) (r74 (12 * k + 10)) ∧ r74 (12 * k + 11) = v9)
abbrev R6 := (Nat → Int32) × (Nat → Int32) × (Nat → Int32) × (Nat → Int32) × (Nat → Int32) × (Nat → Int32)
def stQ (n : Nat) (r3 r2 r71 : Nat → Int32) (q k i : Nat) (r6 r7 r8 r9 r10 t : Nat → Int32) (on other : Int32) (a : R6) (b : (Nat → Int32) × (Nat → Int32)) : Prop :=
  tP 401 n r3 r2 r71 q a.1 b.1 ∧ (∀ j, j ≠ k → a.2.1 j = r6 j ∧ a.2.2.1 j = r7 j ∧ a.2.2.2.1 j = r8 j ∧ a.2.2.2.2.1 j = r9 j ∧ a.2.2.2.2.2 j = r10 j) ∧ (∀ j, j < 12 * k ∨ 12 * k + 12 ≤ j → b.2 j = t j) ∧
  (a.1 8 = 0 → pC i k (a.2.1 k) (a.2.2.1 k) (a.2.2.2.1 k) (a.2.2.2.2.1 k) (a.2.2.2.2.2 k) b.2 ∧ b.2 (12 * k + 3) = on ∧ b.2 (12 * k + 4) = other)
theorem upd_at0 {r : Nat → Int32} {k : Nat} {v : Int32} : upd r (12 * k + 0) v (12 * k) = v := upd_at (r := r) (k := 12 * k)
theorem s8_pass (F : Nat) (hF : 500 ≤ F) {n q L w : Nat} {r2 r3 r71 s : Nat → Int32} (hn : n ≤ 400) (hL : 1 ≤ L) (h : tE 401 n r3 r2 r71 q) (h8 : r2 8 = 0) (hW : wd L w n r3 q) (s10 : (s 10).toInt = (n : Nat)) (s11 : (s 11).toInt = ((q + L : Nat) : Int)) (sf : ∀ k, k ≠ 11 → s k = r71 k) :
    sp (fnX8_goOn F r2 r3) (fun a => tP 401 n r3 r2 r71 q a s ∧ a 8 = 0) := by
  obtain ⟨w1, w2, w3⟩ := wd_end hL h.1 hW
  have s14 : s 14 = 0 := (sf 14 (by omega)).trans (tE_0 h h8).1
  obtain ⟨a, ha, hP⟩ := s8_next F hF (M := 401) (r71 := r71) hn h.1 h8 (tE_9 h h8) w2 (by omega) w3 s10 s11 s14 (rk_11 sf)
  refine ⟨a, ha, hP, ?_⟩
  obtain ⟨q', hE, _⟩ := hP
  exact (tE_n hE).mpr s14
theorem s2_k6 (rw_ : (Nat → Int32) → (Nat → Int32) → (Nat → Int32) → Int32 → Option ((Int32) × (Nat → Int32) × (Nat → Int32))) (F : Nat) (hF : 500 ≤ F) {n q k : Nat} {r2 r3 r6 r7 r8 r9 r10 r71 r77 s t : Nat → Int32} {x1 o4 : Int32} (hx : x1.toInt = (k : Nat)) (hk : k < 40) (ht : tx n r3 r77) (h : tE 401 n r3 r2 r71 q) (h8 : r2 8 = 0) (hW : wd 4 5 n r3 q)
    (s10 : (s 10).toInt = (n : Nat)) (s11 : (s 11).toInt = ((q + 4 : Nat) : Int)) (sf : ∀ k, k ≠ 11 → s k = r71 k) (t1 : ∀ j, j < 12 → t (12 * k + j) = -1) :
    sp2 ((fnX8_goOn F r2 r3).bind (fun o18 => (fnX8_readBehindWord F o18 r3 r6 r7 r8 r9 r10 x1 6).bind (fun o19 => (fnX8_readSign F o19.1 r3 59).bind (fun o6 => some (o6, o19.2))))) (rdK6 rw_ F r77 x1 s t o4) (stQ n r3 r2 r71 q k 6 r6 r7 r8 r9 r10 t (-3) (-1)) := by
  have em1 : (-1 : Int32).toInt = -1 := rfl
  refine sp2_bl (s8_pass F hF ht.1 (by omega) h h8 hW s10 s11 sf) ?_
  rintro a ⟨⟨q1, hE, g1, g2, g3, g4⟩, a8⟩
  unfold fnX8_readBehindWord rdK6
  rw [if_neg (show ¬ (6 : Int32) = 1 by decide), if_neg (show ¬ (6 : Int32) = 2 by decide), if_pos rfl, Option.bind_some, if_pos (b_12 hx hk (show (0 : Int32).toInt = ((0 : Nat) : Int) from rfl) (by omega)), if_pos (b_12 hx hk (show (3 : Int32).toInt = ((3 : Nat) : Int) from rfl) (by omega)),
    c_12 hx hk (show (0 : Int32).toInt = ((0 : Nat) : Int) from rfl) (by omega), c_12 hx hk (show (3 : Int32).toInt = ((3 : Nat) : Int) from rfl) (by omega)]
  obtain ⟨u, v, hu, hv, hP⟩ := s2_sign F hF (by omega) ht okS_59 hE
  rw [hu, hv, Option.bind_some, Option.bind_some]
  refine sp2_some ⟨tP_c g1 g2 g3 g4 hP, fun j _ => ⟨rfl, rfl, rfl, rfl, rfl⟩, fun j hj => ?_, fun y => ⟨⟨?_, fun z => absurd z (by omega), fun _ => ?_, fun z => absurd z (by omega), fun z => absurd z (by omega), fun z => absurd z (by omega), fun _ => ?_, fun z => absurd z (by omega), fun z => absurd z (by omega)⟩, ?_, ?_⟩⟩
  · show upd _ _ _ j = _
    rw [upd_ne (by omega), upd_ne (by omega), upd_ne (by omega)]
  · show (upd _ _ _ _).toInt = _
    rw [upd_ne (by omega), upd_at0]
    rfl
  · show (upd _ _ _ _).toInt = _
    rw [upd_ne (by omega), upd_ne (by omega), upd_ne (by omega), t1 1 (by omega), em1]
  · show (upd _ _ _ _).toInt = _
    rw [upd_ne (by omega), upd_ne (by omega), upd_ne (by omega), t1 2 (by omega), em1]
  · show upd _ _ _ _ = _
    rw [upd_at]
  · show upd _ _ _ _ = _
    rw [upd_ne (by omega), upd_ne (by omega), upd_ne (by omega), t1 4 (by omega)]
theorem s2_k5 (rw_ : (Nat → Int32) → (Nat → Int32) → (Nat → Int32) → Int32 → Option ((Int32) × (Nat → Int32) × (Nat → Int32))) (F : Nat) (hF : 500 ≤ F) {n q k : Nat} {r2 r3 r6 r7 r8 r9 r10 r71 r77 s t : Nat → Int32} {x1 o4 : Int32} (hx : x1.toInt = (k : Nat)) (hk : k < 40) (ht : tx n r3 r77) (h : tE 401 n r3 r2 r71 q) (h8 : r2 8 = 0) (hW : wd 7 4 n r3 q)
    (s10 : (s 10).toInt = (n : Nat)) (s11 : (s 11).toInt = ((q + 7 : Nat) : Int)) (sf : ∀ k, k ≠ 11 → s k = r71 k) (t1 : ∀ j, j < 12 → t (12 * k + j) = -1) :
    sp2 ((fnX8_goOn F r2 r3).bind (fun o18 => (fnX8_readBehindWord F o18 r3 r6 r7 r8 r9 r10 x1 5).bind (fun o19 => (fnX8_readSign F o19.1 r3 59).bind (fun o6 => some (o6, o19.2))))) (rdK5 rw_ F r77 x1 s t o4) (stQ n r3 r2 r71 q k 5 r6 r7 r8 r9 r10 t o4 (-2)) := by
  have em1 : (-1 : Int32).toInt = -1 := rfl
  refine sp2_bl (s8_pass F hF ht.1 (by omega) h h8 hW s10 s11 sf) ?_
  rintro a ⟨⟨q1, hE, g1, g2, g3, g4⟩, a8⟩
  unfold rdK5
  rw [if_pos (b_12 hx hk (show (0 : Int32).toInt = ((0 : Nat) : Int) from rfl) (by omega)),
    c_12 hx hk (show (0 : Int32).toInt = ((0 : Nat) : Int) from rfl) (by omega), c_12 hx hk (show (3 : Int32).toInt = ((3 : Nat) : Int) from rfl) (by omega)]
  obtain ⟨c, d, hc, hd, hP2, c6, c7, c8, d2, hS⟩ := s2_test F hF (r6 := r6) (r7 := r7) (r8 := r8) (r9 := r9) (r10 := r10) (r74 := upd (upd t (12 * k + 3) o4) (12 * k + 0) 5) (x2 := 5) hx hk (by decide) ht hE a8
  rw [hc, hd, Option.bind_some, Option.bind_some, if_pos (b_12 hx hk (show (4 : Int32).toInt = ((4 : Nat) : Int) from rfl) (by omega)), c_12 hx hk (show (4 : Int32).toInt = ((4 : Nat) : Int) from rfl) (by omega)]
  obtain ⟨q2, hE2, p1, p2, p3, p4⟩ := hP2
  obtain ⟨u, v, hu, hv, q3, hE3, k1, k2, k3, k4⟩ := s2_sign F hF (by omega) ht okS_59 hE2
  rw [hu, hv, Option.bind_some, Option.bind_some]
  have F1 : ∀ j, j ≠ 12 * k + 4 → upd d.2 (12 * k + 4) (-2) j = d.2 j := fun j hj => upd_ne hj
  have F2 : ∀ j, j < 12 * k + 5 → d.2 j = upd (upd t (12 * k + 3) o4) (12 * k + 0) 5 j := fun j hj => d2 j (.inl hj)
  refine sp2_some ⟨tP_c g1 g2 g3 g4 (tP_c p1 p2 p3 p4 ⟨q3, hE3, k1, k2, k3, k4⟩), fun j hj => ⟨by rw [c6], by rw [c7], c8 j hj⟩, fun j hj => ?_, fun y => ⟨⟨?_, fun z => absurd z (by omega), fun _ => ?_, fun z => absurd z (by omega), fun z => absurd z (by omega), fun z => absurd z (by omega), fun _ => ?_, fun _ => ?_, fun _ => ?_⟩, ?_, ?_⟩⟩
  · show upd d.2 (12 * k + 4) (-2) j = _
    rw [F1 j (by omega), d2 j (by omega), upd_ne (by omega), upd_ne (by omega)]
  · show (upd d.2 (12 * k + 4) (-2) _).toInt = _
    rw [F1 _ (by omega), F2 _ (by omega), upd_at0]
    rfl
  · show (upd d.2 (12 * k + 4) (-2) _).toInt = _
    rw [F1 _ (by omega), F2 _ (by omega), upd_ne (by omega), upd_ne (by omega), t1 1 (by omega), em1]
  · show (upd d.2 (12 * k + 4) (-2) _).toInt = _
    rw [F1 _ (by omega), F2 _ (by omega), upd_ne (by omega), upd_ne (by omega), t1 2 (by omega), em1]
  · show sr _ (upd d.2 (12 * k + 4) (-2) _) (upd d.2 (12 * k + 4) (-2) _) (upd d.2 (12 * k + 4) (-2) _)
    rw [F1 _ (by omega), F1 _ (by omega), F1 _ (by omega)]
    exact (hS (k2 y).1).1
  · show sr _ (upd d.2 (12 * k + 4) (-2) _) (upd d.2 (12 * k + 4) (-2) _) (upd d.2 (12 * k + 4) (-2) _) ∧ upd d.2 (12 * k + 4) (-2) _ = _
    rw [F1 _ (by omega), F1 _ (by omega), F1 _ (by omega), F1 _ (by omega)]
    exact (hS (k2 y).1).2
  · show upd d.2 (12 * k + 4) (-2) _ = _
    rw [F1 _ (by omega), F2 _ (by omega), upd_ne (by omega), upd_at]
  · show upd d.2 (12 * k + 4) (-2) _ = _
    rw [upd_at]
