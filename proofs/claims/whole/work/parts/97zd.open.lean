/-! ===== the text: a block opens, in both ===== -/
theorem tE_od {n q : Nat} {r3 o b : Nat → Int32} {v w : Int32} (h : tE 401 n r3 o b q) : tE 401 n r3 (upd o 10 v) (upd b 13 w) q := by
  obtain ⟨h1, h2, h3⟩ := h
  refine ⟨tk_10 h1, by rw [upd_ne (by omega)]; exact h2, ?_⟩
  unfold hQr at *
  rw [upd_ne (k := 10) (j := 8) (by omega), upd_ne (k := 10) (j := 9) (by omega), upd_ne (k := 13) (j := 14) (by omega), upd_ne (k := 13) (j := 15) (by omega), upd_ne (k := 13) (j := 10) (by omega), upd_ne (k := 13) (j := 11) (by omega)]
  exact h3
theorem fE_of {n q : Nat} {r3 o b : Nat → Int32} (h : tE 401 n r3 o b q) (h8 : ¬ o 8 = 0) : 1 ≤ (o 8).toInt ∧ (o 8).toInt ≤ 3 ∧ b 14 = o 8 ∧ b 15 = o 9 := by
  rcases h.2.2 with w | ⟨w1, w2, w3, w4, _⟩
  · exact absurd w.1 h8
  · exact ⟨w1, w2, w3, w4⟩
def fr6 (a b : Nat → Int32) : Prop := ∀ k, k ≠ 5 → k ≠ 11 → k ≠ 12 → k ≠ 13 → k ≠ 14 → k ≠ 15 → b k = a k
theorem fr6_tr {a b c : Nat → Int32} (h : fr6 a b) (h' : fr6 b c) : fr6 a c := fun k k1 k2 k3 k4 k5 k6 => (h' k k1 k2 k3 k4 k5 k6).trans (h k k1 k2 k3 k4 k5 k6)
theorem fr6_rk {a b : Nat → Int32} (h : rk a b) : fr6 a b := fun k _ k2 k3 _ k5 k6 => h k k2 k3 k5 k6
theorem fr6_13 {a b : Nat → Int32} {v : Int32} (h : fr6 a b) : fr6 a (upd b 13 v) := fun k k1 k2 k3 k4 k5 k6 => by rw [upd_ne k4]; exact h k k1 k2 k3 k4 k5 k6
theorem fr6_31 {a b : Nat → Int32} {v : Int32} (h : fr6 (upd a 13 v) b) : fr6 a b := fun k k1 k2 k3 k4 k5 k6 => by rw [h k k1 k2 k3 k4 k5 k6, upd_ne k4]
/-- what a statement at depth d leaves as it was -/
def frS (d K : Nat) (c c' : Nat → Nat → Int32) : Prop := (∀ e, e ≤ d → c' 15 e = c 15 e ∧ c' 17 e = c 17 e) ∧ (∀ e, e < d → c' 16 e = c 16 e) ∧ (∀ k, k < K → c' 5 k = c 5 k) ∧ (∀ k, k < K → c' 11 k = bgn c d K 0 11 k ∧ c' 12 k = bgn c d K 0 12 k)
def opQ (n : Nat) (r3 : Nat → Int32) (x i : Int32) (c c2 : Nat → Nat → Int32) (s0 b rr : Nat → Int32) (q d K : Nat) : Prop :=
  c2 2 0 = c 2 0 ∧ rk s0 b ∧ ((d < 6 ∧ ∃ q' : Nat, q < q' ∧ aJ n r3 (x + 1) c2 (upd b 13 (b 13 + 1)) rr q' (d + 1) (K + 1) ∧ c2 16 (d + 1) = -1 ∧ c2 16 d = c 4 0 ∧ c2 15 (d + 1) = c 4 0 ∧ c2 17 (d + 1) = 0 ∧ c2 5 K = i ∧ c2 11 K = -1 ∧ frS d K c c2) ∨ fE c2 b)
theorem op_tail (rw_ : RW_) (F : Nat) (hF : 500 ≤ F) {n q d K i : Nat} {i' : Int32} {r3 r71 r74 r77 s0 t hh rr : Nat → Int32} {x x1 : Int32} {c : Nat → Nat → Int32} {v : R6} (ht : tx n r3 r77) (hJ : aJ n r3 x c r71 r74 q d K) (hK4 : K < 40) (h05 : (s0 5).toInt = ((K + 1 : Nat) : Int)) (h013 : (s0 13).toInt = (d : Nat)) (hi6 : i ≤ 6) (hi : i' = 2 ∨ i' = 3 ∨ i' = 4) (hi' : i'.toInt = (i : Nat)) (hl : q < n ∧ isL (bt r3 q))
    (hkd : fnX8_kindHere F (c 2) r3 = some i')
    (hv : (fnX8_goOn F (c 2) r3).bind (fun o18 => fnX8_readBehindWord F o18 r3 (bgn c d K i' 6) (bgn c d K i' 7) (bgn c d K i' 8) (bgn c d K i' 9) (bgn c d K i' 10) (c 4 0) i') = some v)
    (hQ : stQ n r3 (c 2) s0 q K i (bgn c d K i' 6) (bgn c d K i' 7) (bgn c d K i' 8) (bgn c d K i' 9) (bgn c d K i' 10) t (-100 - c 4 0) (-100 - c 4 0) v (hh, rr)) (ht2 : ∀ j, j < 12 * K ∨ 12 * K + 12 ≤ j → t j = rJ (c 16 d) (c 4 0) K r74 j) :
    ∃ (c2 : Nat → Nat → Int32) (b : Nat → Int32), fnX11_block rw_ F hh rr r77 x1 = blkR rw_ F b rr r77 x1 ∧ bodyC F r3 (tup x c) = some (.inl (tup (x + 1) c2)) ∧ opQ n r3 x i' c c2 s0 b rr q d K := by
  have e1 : (1 : Int32).toInt = 1 := rfl
  have nb0 : vp_nar .boolean 0 = 0 := by decide
  have hJ' := hJ
  obtain ⟨hE, h8, hd, hd2, hd6, hK, hK2, hK3, hx0, hxq, hs, hL, hc, ho⟩ := hJ'
  obtain ⟨h15, h16⟩ := stk_ib hs hK3
  obtain ⟨⟨q1, hE1, g1, g2, g3, g4⟩, hrow, hr, hcon⟩ := hQ
  have hE1 : tE 401 n r3 v.1 hh q1 := hE1
  have g4 : rk s0 hh := g4
  have v10 : (v.1 10).toInt = (d : Nat) := by rw [g3 10 (by omega) (by omega) (by omega) (by omega) (by omega) (by omega)]; exact hd
  have hh13 : (hh 13).toInt = (d : Nat) := by rw [g4 13 (by omega) (by omega) (by omega) (by omega)]; exact h013
  obtain ⟨o, b, hO, hB, ⟨q2, hE2, l1, l2, l3, l4⟩, hd6'⟩ := s2_open rw_ F hF (r15 := c 15) (r16 := bgn c d K i' 16) (r17 := c 17) (r74 := rr) (x := c 4 0) (x1 := x1) (x2 := 0) ht hE1 v10 hh13 hd6
  have hne : ¬ i' = -1 := by rcases hi with e | e | e <;> rw [e] <;> decide
  have hb3 : ¬ r3 q = 125 := fun z => by
    have := hl.2
    unfold bt at this
    rw [z] at this
    exact okS_125.1 this
  have v0 : o 0 = c 2 0 := (l3 0 (by omega) (by omega) (by omega) (by omega) (by omega) (by omega)).trans (g3 0 (by omega) (by omega) (by omega) (by omega) (by omega) (by omega))
  by_cases z : o 8 = 0
  · rw [if_pos z, nb0] at hO
    have hst := e_block F (K := K) (d := d) (c := c) (i := i') hi hkd hne hK hK4 hd hd6 h15 h16 hv hO
    have hd5 := hd6' z
    obtain ⟨m1, m2⟩ := l2 z
    obtain ⟨m3, m4⟩ := g2 m1
    obtain ⟨k1, k2, k3⟩ := hcon m1
    have hn' := hE2.1.2.2.1
    have hn := ht.1
    have o10 : o 10 = v.1 10 := l3 10 (by omega) (by omega) (by omega) (by omega) (by omega) (by omega)
    have b13 : b 13 = hh 13 := l4 13 (by omega) (by omega) (by omega) (by omega)
    have b5 : b 5 = s0 5 := (l4 5 (by omega) (by omega) (by omega) (by omega)).trans (g4 5 (by omega) (by omega) (by omega) (by omega))
    have hr' : ∀ j, j < 12 * K → rr j = rJ (c 16 d) (c 4 0) K r74 j := fun j hj => (hr j (.inl hj)).trans (ht2 j (.inl hj))
    obtain ⟨w1, w2, w3⟩ := op_state (c := c) (c' := bgn c d K i') (c2 := pt9 (bgn c d K i') v (upd o 10 (o 10 + 1)) (upd (c 15) (d + 1) (c 4 0)) (upd (bgn c d K i' 16) (d + 1) (-1)) (upd (c 17) (d + 1) 0)) (r' := rr) hs hK hK4 hi rfl rfl rfl rfl rfl rfl rfl rfl rfl rfl rfl rfl rfl rfl rfl rfl hL ho.1 hr' k3
    have k2' : rr (12 * K + 3) = -100 - c 4 0 := k2
    have k3' : rr (12 * K + 4) = -100 - c 4 0 := k3
    have w4 : ur_ (bgn c d K i') rr d (K + 1) := ur_bgn (i := i') hs hK hK4 rfl hr' (.inl k2') (.inl k3') ho.2
    refine ⟨_, b, hB, b_at F hn hJ hl.1 hb3 hst, ?_, rk_tr g4 l4, .inl ⟨hd5, q2, by omega, ⟨tE_od hE2, ?_, ?_, ?_, by omega, ?_, ?_, by omega, ?_, ?_, w1, w2, ?_, w3, ur_open (fun e he => upd_ne (by omega)) w4⟩, upd_at, ?_, upd_at, upd_at, upd_at, upd_at, ?_⟩⟩
    · show upd o 10 (o 10 + 1) 0 = _
      rw [upd_ne (by omega)]
      exact v0
    · show upd o 10 (o 10 + 1) 8 = _
      rw [upd_ne (by omega)]
      exact z
    · show (upd o 10 (o 10 + 1) 10).toInt = _
      rw [upd_at, o10, i_add (by omega) (by omega), v10, e1]
      omega
    · rw [upd_at, b13, i_add (by omega) (by omega), hh13, e1]
      omega
    · show (upd (c 4) 0 (c 4 0 + 1) 0).toInt = _
      rw [upd_at, i_add (by omega) (by omega), hK, e1]
      omega
    · rw [upd_ne (by omega), b5]
      exact h05
    · rw [i_add (by omega) (by omega), e1]
      omega
    · rw [i_add (by omega) (by omega), e1]
      omega
    · exact cnt_bgn hc hi6 hi' hK rfl rfl rfl rfl hrow hr' k1
    · show upd (upd (c 16) d (c 4 0)) (d + 1) (-1) d = _
      rw [upd_ne (by omega), upd_at]
    · refine ⟨fun e he => ⟨?_, ?_⟩, fun e he => ?_, fun k hk => ?_, fun k hk => ⟨rfl, rfl⟩⟩
      · show upd (c 15) (d + 1) _ e = _
        rw [upd_ne (by omega)]
      · show upd (c 17) (d + 1) _ e = _
        rw [upd_ne (by omega)]
      · show upd (upd (c 16) d (c 4 0)) (d + 1) (-1) e = _
        rw [upd_ne (by omega), upd_ne (by omega)]
      · show upd (c 5) K i' k = _
        rw [upd_ne (by omega)]
  · rw [if_neg z] at hO
    have hst := e_block F (K := K) (d := d) (c := c) (i := i') hi hkd hne hK hK4 hd hd6 h15 h16 hv hO
    exact ⟨_, b, hB, b_at F ht.1 hJ hl.1 hb3 hst, v0, rk_tr g4 l4, .inr (fE_of hE2 z)⟩
theorem op_2 (rw_ : RW_) (F : Nat) (hF : 500 ≤ F) {n q d K : Nat} {r3 r71 r74 r77 s0 : Nat → Int32} {x : Int32} {c : Nat → Nat → Int32} (ht : tx n r3 r77) (hJ : aJ n r3 x c r71 r74 q d K) (hK4 : K < 40) (hE0 : tE 401 n r3 (c 2) s0 q) (h05 : (s0 5).toInt = ((K + 1 : Nat) : Int)) (h013 : (s0 13).toInt = (d : Nat)) (hk : kR n r3 q 2) :
    ∃ (c2 : Nat → Nat → Int32) (b rr : Nat → Int32), fnX11_reads rw_ F s0 (rJ (c 16 d) (c 4 0) K r74) r77 (c 4 0) = (blkR rw_ F b rr r77 (-100 - c 4 0)).bind (fun o4 => ctF rw_ F K (c 4 0) r77 o4) ∧ bodyC F r3 (tup x c) = some (.inl (tup (x + 1) c2)) ∧ opQ n r3 x 2 c c2 s0 b rr q d K := by
  have hJ' := hJ
  obtain ⟨hE, h8, hd, hd2, hd6, hK, hK2, hK3, hx0, hxq, hs, hL, hc, ho⟩ := hJ'
  obtain ⟨s, t, hR, s10, s11, sf, t1, t2⟩ := s11_d2 rw_ F hF (r74 := rJ (c 16 d) (c 4 0) K r74) hK hK4 ht (tE_0 hE0 h8).1 (tE_0 hE0 h8).2 hk
  obtain ⟨v, hh, rr, hv, hb, hQ⟩ := hd_2 rw_ F hF (r6 := bgn c d K 2 6) (r7 := bgn c d K 2 7) (r8 := bgn c d K 2 8) (r9 := bgn c d K 2 9) (r10 := bgn c d K 2 10) (o4 := -100 - c 4 0) hK hK4 ht hE0 h8 hk.2.1 s10 s11 sf t1
  obtain ⟨c2, b, h1, h2, h3⟩ := op_tail rw_ F hF (i := 2) (i' := 2) (x1 := -100 - c 4 0) ht hJ hK4 h05 h013 (by omega) (.inl rfl) rfl (kR_l hk) (kind_of F hF ht.1 hE.1 hk rfl) hv hQ t2
  exact ⟨c2, b, rr, by rw [hR, hb, h1], h2, h3⟩
theorem op_3 (rw_ : RW_) (F : Nat) (hF : 500 ≤ F) {n q d K : Nat} {r3 r71 r74 r77 s0 : Nat → Int32} {x : Int32} {c : Nat → Nat → Int32} (ht : tx n r3 r77) (hJ : aJ n r3 x c r71 r74 q d K) (hK4 : K < 40) (hE0 : tE 401 n r3 (c 2) s0 q) (h05 : (s0 5).toInt = ((K + 1 : Nat) : Int)) (h013 : (s0 13).toInt = (d : Nat)) (hk : kR n r3 q 3) :
    ∃ (c2 : Nat → Nat → Int32) (b rr : Nat → Int32), fnX11_reads rw_ F s0 (rJ (c 16 d) (c 4 0) K r74) r77 (c 4 0) = (blkR rw_ F b rr r77 (-100 - c 4 0)).bind (fun o4 => ctF rw_ F K (c 4 0) r77 o4) ∧ bodyC F r3 (tup x c) = some (.inl (tup (x + 1) c2)) ∧ opQ n r3 x 3 c c2 s0 b rr q d K := by
  have hJ' := hJ
  obtain ⟨hE, h8, hd, hd2, hd6, hK, hK2, hK3, hx0, hxq, hs, hL, hc, ho⟩ := hJ'
  obtain ⟨s, t, hR, s10, s11, sf, t1, t2⟩ := s11_d3 rw_ F hF (r74 := rJ (c 16 d) (c 4 0) K r74) hK hK4 ht (tE_0 hE0 h8).1 (tE_0 hE0 h8).2 hk
  obtain ⟨v, hh, rr, hv, hb, hQ⟩ := hd_3 rw_ F hF (r6 := bgn c d K 3 6) (r7 := bgn c d K 3 7) (r8 := bgn c d K 3 8) (r9 := bgn c d K 3 9) (r10 := bgn c d K 3 10) (o4 := -100 - c 4 0) hK hK4 ht hE0 h8 hk.2.1 s10 s11 sf t1
  obtain ⟨c2, b, h1, h2, h3⟩ := op_tail rw_ F hF (i := 3) (i' := 3) (x1 := -100 - c 4 0) ht hJ hK4 h05 h013 (by omega) (.inr (.inl rfl)) rfl (kR_l hk) (kind_of F hF ht.1 hE.1 hk rfl) hv hQ t2
  exact ⟨c2, b, rr, by rw [hR, hb, h1], h2, h3⟩
theorem op_4 (rw_ : RW_) (F : Nat) (hF : 500 ≤ F) {n q d K : Nat} {r3 r71 r74 r77 s0 : Nat → Int32} {x : Int32} {c : Nat → Nat → Int32} (ht : tx n r3 r77) (hJ : aJ n r3 x c r71 r74 q d K) (hK4 : K < 40) (hE0 : tE 401 n r3 (c 2) s0 q) (h05 : (s0 5).toInt = ((K + 1 : Nat) : Int)) (h013 : (s0 13).toInt = (d : Nat)) (hk : kR n r3 q 4) :
    ∃ (c2 : Nat → Nat → Int32) (b rr : Nat → Int32), fnX11_reads rw_ F s0 (rJ (c 16 d) (c 4 0) K r74) r77 (c 4 0) = (blkR rw_ F b rr r77 (c 4 0)).bind (fun o4 => ctW K o4) ∧ bodyC F r3 (tup x c) = some (.inl (tup (x + 1) c2)) ∧ opQ n r3 x 4 c c2 s0 b rr q d K := by
  have hJ' := hJ
  obtain ⟨hE, h8, hd, hd2, hd6, hK, hK2, hK3, hx0, hxq, hs, hL, hc, ho⟩ := hJ'
  obtain ⟨s, t, hR, s10, s11, sf, t1, t2⟩ := s11_d4 rw_ F hF (r74 := rJ (c 16 d) (c 4 0) K r74) hK hK4 ht (tE_0 hE0 h8).1 (tE_0 hE0 h8).2 hk
  obtain ⟨v, hh, rr, hv, hb, hQ⟩ := hd_4 rw_ F hF (r6 := bgn c d K 4 6) (r7 := bgn c d K 4 7) (r8 := bgn c d K 4 8) (r9 := bgn c d K 4 9) (r10 := bgn c d K 4 10) (o4 := -100 - c 4 0) hK hK4 ht hE0 h8 hk.2.1 s10 s11 sf t1
  obtain ⟨c2, b, h1, h2, h3⟩ := op_tail rw_ F hF (i := 4) (i' := 4) (x1 := c 4 0) ht hJ hK4 h05 h013 (by omega) (.inr (.inr rfl)) rfl (kR_l hk) (kind_of F hF ht.1 hE.1 hk rfl) hv hQ t2
  exact ⟨c2, b, rr, by rw [hR, hb, h1], h2, h3⟩
