/-! ===== the text: the two stand alike ===== -/
/-- no fault: class memory c in round x, reference rows r71, r74, before the token at q, at depth d, K statements read -/
def aJ (n : Nat) (r3 : Nat → Int32) (x : Int32) (c : Nat → Nat → Int32) (r71 r74 : Nat → Int32) (q d K : Nat) : Prop :=
  tE 401 n r3 (c 2) r71 q ∧ c 2 8 = 0 ∧ (c 2 10).toInt = (d : Nat) ∧ (r71 13).toInt = (d : Nat) ∧ d ≤ 6 ∧ (c 4 0).toInt = (K : Nat) ∧ (r71 5).toInt = (K : Nat) ∧ K ≤ 40 ∧ 0 ≤ x.toInt ∧ x.toInt ≤ (q : Nat) ∧ stk c d K ∧ LK c r74 d K ∧ cnt c r74 K ∧ own_ c r74 d K ∧ ur_ c r74 d K
def fE (c : Nat → Nat → Int32) (r71 : Nat → Int32) : Prop := 1 ≤ (c 2 8).toInt ∧ (c 2 8).toInt ≤ 3 ∧ r71 14 = c 2 8 ∧ r71 15 = c 2 9
theorem kR_l {n q i : Nat} {r3 : Nat → Int32} (h : kR n r3 q i) : q < n ∧ isL (bt r3 q) := by
  obtain ⟨h1, h2, _⟩ := h
  have h0 : i = 0 ∨ i = 1 ∨ i = 2 ∨ i = 3 ∨ i = 4 ∨ i = 5 ∨ i = 6 := by omega
  rcases h0 with e | e | e | e | e | e | e
  · subst e
    have a : isV n (bt r3) q := h2
    refine ⟨a.1, a.2.1, ?_⟩
    have := a.2.2.1
    omega
  · subst e
    have a : wd 4 0 n r3 q := h2
    have := wd_run (by omega) a
    exact ⟨this.1, this.2.1⟩
  · subst e
    have a : wd 4 1 n r3 q := h2
    have := wd_run (by omega) a
    exact ⟨this.1, this.2.1⟩
  · subst e
    have a : wd 2 2 n r3 q := h2
    have := wd_run (by omega) a
    exact ⟨this.1, this.2.1⟩
  · subst e
    have a : wd 5 3 n r3 q := h2
    have := wd_run (by omega) a
    exact ⟨this.1, this.2.1⟩
  · subst e
    have a : wd 7 4 n r3 q := h2
    have := wd_run (by omega) a
    exact ⟨this.1, this.2.1⟩
  · subst e
    have a : wd 4 5 n r3 q := h2
    have := wd_run (by omega) a
    exact ⟨this.1, this.2.1⟩
theorem tk_4 {n q : Nat} {r3 r2 : Nat → Int32} (h : tk n r3 r2 q) : r2 4 = 0 ↔ q = n := by
  obtain ⟨t3, t5, tq, t_b, e, t6, tqe, ten, hc⟩ := h
  rcases hc with ⟨c1, c2, c3⟩ | ⟨c1, c2, c3, c4⟩ | ⟨c1, c2, c3, c4, c5⟩ | ⟨c1, c2, c3, c4, c5⟩
  · exact ⟨fun _ => c1, fun _ => c2⟩
  · rw [c3]; exact ⟨fun z => absurd z (by decide), fun z => absurd z (by omega)⟩
  · rw [c3]; exact ⟨fun z => absurd z (by decide), fun z => absurd z (by omega)⟩
  · rw [c4]; exact ⟨fun z => absurd z (by decide), fun z => absurd z (by omega)⟩
/-- a pass in which a statement is read, from an alike state -/
theorem b_at (F : Nat) {n q d K : Nat} {r3 r71 r74 : Nat → Int32} {x : Int32} {c c' : Nat → Nat → Int32} (hn : n ≤ 400) (hJ : aJ n r3 x c r71 r74 q d K) (hq : q < n) (hb : ¬ r3 q = 125)
    (h : fnX8_readStatement F (c 2) r3 (c 4) (c 5) (c 6) (c 7) (c 8) (c 9) (c 10) (c 11) (c 12) (c 13) (c 14) (c 15) (c 16) (c 17) = some (tup5 c')) : bodyC F r3 (tup x c) = some (.inl (tup (x + 1) c')) := by
  obtain ⟨hE, h8, hd, _, _, _, _, _, hx0, hxq, _⟩ := hJ
  have h3 := hE.1.1
  refine b_stm F (fun z => ?_) h8 (.inr (fun z => ?_)) (.inr ?_) h
  · have := i_lt.mp z
    omega
  · have := (tk_4 hE.1).mp z
    omega
  · rw [s8_isSign F hn hE.1 okS_125.1 okS_125.2.1, if_neg (fun z => hb z.2)]
theorem st_tail (F : Nat) {n q d K i : Nat} {i' : Int32} {r3 r71 r74 s0 t b r' : Nat → Int32} {x on other : Int32} {c : Nat → Nat → Int32} {a : R6} (hn : n ≤ 400) (hJ : aJ n r3 x c r71 r74 q d K) (hK4 : K < 40) (h05 : (s0 5).toInt = ((K + 1 : Nat) : Int)) (h013 : (s0 13).toInt = (d : Nat)) (hi : i ≤ 6) (hi' : i'.toInt = (i : Nat)) (hl : q < n ∧ isL (bt r3 q))
    (hst : fnX8_readStatement F (c 2) r3 (c 4) (c 5) (c 6) (c 7) (c 8) (c 9) (c 10) (c 11) (c 12) (c 13) (c 14) (c 15) (c 16) (c 17) = some (tup5 (pt6 (bgn c d K i') a)))
    (hQ : stQ n r3 (c 2) s0 q K i (bgn c d K i' 6) (bgn c d K i' 7) (bgn c d K i' 8) (bgn c d K i' 9) (bgn c d K i' 10) t on other a (b, r')) (ht2 : ∀ j, j < 12 * K ∨ 12 * K + 12 ≤ j → t j = rJ (c 16 d) (c 4 0) K r74 j)
    (hw : (i' = 0 ∨ i' = 1) ∧ on = -100 - c 4 0 ∧ other = -1 ∨ i' = 5 ∧ on = -100 - c 4 0 ∧ other = -2 ∨ i' = 6 ∧ on = -3 ∧ other = -1) :
    bodyC F r3 (tup x c) = some (.inl (tup (x + 1) (pt6 (bgn c d K i') a))) ∧ rk s0 b ∧ ck (c 2) (pt6 (bgn c d K i') a 2) ∧
      ((a.1 8 = 0 ∧ ∃ q' : Nat, q < q' ∧ aJ n r3 (x + 1) (pt6 (bgn c d K i') a) b r' q' d (K + 1)) ∨ fE (pt6 (bgn c d K i') a) b) := by
  have e1 : (1 : Int32).toInt = 1 := rfl
  have hb : bodyC F r3 (tup x c) = some (.inl (tup (x + 1) (pt6 (bgn c d K i') a))) := b_at F hn hJ hl.1 (fun z => by
    have := hl.2
    unfold bt at this
    rw [z] at this
    exact okS_125.1 this) hst
  obtain ⟨hE, h8, hd, hd2, hd6, hK, hK2, hK3, hx0, hxq, hs, hL, hc, ho⟩ := hJ
  obtain ⟨⟨q', hE', g1, g2, g3, g4⟩, hrow, hr, hcon⟩ := hQ
  refine ⟨hb, g4, g3, ?_⟩
  have hn' := hE'.1.2.2.1
  by_cases z : a.1 8 = 0
  · refine .inl ⟨z, q', (g2 z).2, ?_⟩
    obtain ⟨k1, k2, k3⟩ := hcon z
    have hq' := (g2 z).2
    have hr' : ∀ j, j < 12 * K → r' j = rJ (c 16 d) (c 4 0) K r74 j := fun j hj => (hr j (.inl hj)).trans (ht2 j (.inl hj))
    refine ⟨hE', z, ?_, ?_, hd6, ?_, ?_, by omega, ?_, ?_, stk_bgn hs hK rfl rfl rfl rfl rfl rfl, ?_, ?_, ?_, ?_⟩
    · show (a.1 10).toInt = _
      rw [g3 10 (by omega) (by omega) (by omega) (by omega) (by omega) (by omega)]
      exact hd
    · rw [show b 13 = s0 13 from g4 13 (by omega) (by omega) (by omega) (by omega)]
      exact h013
    · show (upd (c 4) 0 (c 4 0 + 1) 0).toInt = _
      rw [upd_at, i_add (by omega) (by omega), hK, e1]
      omega
    · rw [show b 5 = s0 5 from g4 5 (by omega) (by omega) (by omega) (by omega)]
      exact h05
    · rw [i_add (by omega) (by omega), e1]
      omega
    · rw [i_add (by omega) (by omega), e1]
      omega
    · refine lk_simple (i := i') hs hK hK4 rfl rfl rfl rfl rfl rfl rfl hL (fun k hk => ⟨hr' _ (by omega), hr' _ (by omega)⟩) ?_
      rw [show r' (12 * K + 3) = on from k2, show r' (12 * K + 4) = other from k3]
      exact hw
    · exact cnt_bgn hc hi hi' hK rfl rfl rfl rfl hrow hr' k1
    · exact own_bgn hs hK hK4 rfl rfl rfl rfl rfl rfl rfl rfl hr' ho.1
    · have k2' : r' (12 * K + 3) = on := k2
      have k3' : r' (12 * K + 4) = other := k3
      refine ur_bgn (i := i') hs hK hK4 rfl hr' ?_ ?_ ho.2
      · rw [k2']
        rcases hw with w | w | w
        · exact .inl w.2.1
        · exact .inl w.2.1
        · exact .inr (by rw [w.2.1]; decide)
      · rw [k3']
        rcases hw with w | w | w
        · exact .inr (by rw [w.2.2]; decide)
        · exact .inr (by rw [w.2.2]; decide)
        · exact .inr (by rw [w.2.2]; decide)
  · refine .inr ?_
    rcases hE'.2.2 with w | ⟨w1, w2, w3, w4, _⟩
    · exact absurd w.1 z
    · exact ⟨w1, w2, w3, w4⟩
