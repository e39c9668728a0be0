/-! ===== the text: a simple statement, in both ===== -/
theorem kR_un {n q i j : Nat} {r3 : Nat → Int32} (h : kR n r3 q i) (h' : kR n r3 q j) : i = j := by
  rcases Nat.lt_trichotomy i j with z | z | z
  · exact absurd h.2.1 (h'.2.2 i z)
  · exact z
  · exact absurd h'.2.1 (h.2.2 j z)
theorem kind_of (F : Nat) (hF : 500 ≤ F) {n q i : Nat} {r2 r3 : Nat → Int32} {i' : Int32} (hn : n ≤ 400) (ht : tk n r3 r2 q) (h : kR n r3 q i) (hi : i'.toInt = (i : Nat)) : fnX8_kindHere F r2 r3 = some i' := by
  obtain ⟨r, hr, h1⟩ := s8_kind F hF hn ht
  rw [hr]
  rcases h1 with ⟨a, _⟩ | ⟨j, a, b⟩
  · exact absurd a (kR_n h)
  · have := kR_un h a
    subst this
    exact congrArg some (i_eq.mpr (b.trans hi.symm))
theorem stk_ib {c : Nat → Nat → Int32} {d K : Nat} (hs : stk c d K) (hK : K ≤ 40) : (¬ c 15 d = -1 → mj_ib (c 15 d) 40 = true) ∧ (¬ c 16 d = -1 → mj_ib (c 16 d) 40 = true) := by
  obtain ⟨s1, s2, s3, s4⟩ := hs
  refine ⟨fun z => ?_, fun z => ?_⟩
  · by_cases y : d = 0
    · rw [y] at z
      exact absurd s1 z
    · obtain ⟨o, o1, o2, _⟩ := s2 d (by omega) (Nat.le_refl d)
      exact mj_ib_of (by omega) (by omega)
  · rcases s3 d (Nat.le_refl d) with y | ⟨l, l1, l2, _⟩
    · exact absurd y z
    · exact mj_ib_of (by omega) (by omega)
def smR (n : Nat) (r3 : Nat → Int32) (x : Int32) (c c' : Nat → Nat → Int32) (s0 b r' : Nat → Int32) (q d K : Nat) : Prop :=
  rk s0 b ∧ ck (c 2) (c' 2) ∧ c' 15 = c 15 ∧ c' 17 = c 17 ∧ c' 16 = bgn c d K 0 16 ∧ c' 11 = bgn c d K 0 11 ∧ c' 12 = bgn c d K 0 12 ∧ (∀ k, k < K → c' 5 k = c 5 k) ∧ ((c' 2 8 = 0 ∧ ∃ q' : Nat, q < q' ∧ aJ n r3 (x + 1) c' b r' q' d (K + 1)) ∨ fE c' b)
theorem st_s0 (rw_ : (Nat → Int32) → (Nat → Int32) → (Nat → Int32) → Int32 → Option ((Int32) × (Nat → Int32) × (Nat → Int32))) (F : Nat) (hF : 500 ≤ F) {n q d K : Nat} {r3 r71 r74 r77 s0 : Nat → Int32} {x : Int32} {c : Nat → Nat → Int32} (ht : tx n r3 r77) (hJ : aJ n r3 x c r71 r74 q d K) (hK4 : K < 40) (hE0 : tE 401 n r3 (c 2) s0 q) (h05 : (s0 5).toInt = ((K + 1 : Nat) : Int)) (h013 : (s0 13).toInt = (d : Nat)) (hk : kR n r3 q 0) :
    ∃ (c' : Nat → Nat → Int32) (b r' : Nat → Int32), fnX11_reads rw_ F s0 (rJ (c 16 d) (c 4 0) K r74) r77 (c 4 0) = some (b, r') ∧ bodyC F r3 (tup x c) = some (.inl (tup (x + 1) c')) ∧ smR n r3 x c c' s0 b r' q d K := by
  have hJ' := hJ
  obtain ⟨hE, h8, hd, hd2, hd6, hK, hK2, hK3, hx0, hxq, hs, hL, hc, ho⟩ := hJ'
  obtain ⟨h15, h16⟩ := stk_ib hs hK3
  obtain ⟨s, t, hR, s10, s11, sf, t1, t2⟩ := s11_d0 rw_ F hF (r74 := rJ (c 16 d) (c 4 0) K r74) hK hK4 ht (tE_0 hE0 h8).1 (tE_0 hE0 h8).2 hk
  obtain ⟨a, ⟨b, r'⟩, ha, hb, hQ⟩ := s2_k0 rw_ F hF (r6 := bgn c d K 0 6) (r7 := bgn c d K 0 7) (r8 := bgn c d K 0 8) (r9 := bgn c d K 0 9) (r10 := bgn c d K 0 10) (o4 := -100 - c 4 0) hK hK4 ht hE0 h8 s10 s11 sf t1
  have hst := e_assign F (K := K) (d := d) (c := c) (i := 0) (rfl) (kind_of F hF ht.1 hE.1 hk rfl) (by decide) hK hK4 hd hd6 h15 h16 ha
  obtain ⟨w1, w2, w3, w4⟩ := st_tail F (i := 0) ht.1 hJ hK4 h05 h013 (by omega) rfl (kR_l hk) hst hQ t2 (.inl ⟨.inl rfl, rfl, rfl⟩)
  exact ⟨_, b, r', hR.trans hb, w1, w2, w3, rfl, rfl, rfl, rfl, rfl, fun k hk => upd_ne (by omega), w4⟩
theorem st_s1 (rw_ : (Nat → Int32) → (Nat → Int32) → (Nat → Int32) → Int32 → Option ((Int32) × (Nat → Int32) × (Nat → Int32))) (F : Nat) (hF : 500 ≤ F) {n q d K : Nat} {r3 r71 r74 r77 s0 : Nat → Int32} {x : Int32} {c : Nat → Nat → Int32} (ht : tx n r3 r77) (hJ : aJ n r3 x c r71 r74 q d K) (hK4 : K < 40) (hE0 : tE 401 n r3 (c 2) s0 q) (h05 : (s0 5).toInt = ((K + 1 : Nat) : Int)) (h013 : (s0 13).toInt = (d : Nat)) (hk : kR n r3 q 1) :
    ∃ (c' : Nat → Nat → Int32) (b r' : Nat → Int32), fnX11_reads rw_ F s0 (rJ (c 16 d) (c 4 0) K r74) r77 (c 4 0) = some (b, r') ∧ bodyC F r3 (tup x c) = some (.inl (tup (x + 1) c')) ∧ smR n r3 x c c' s0 b r' q d K := by
  have hJ' := hJ
  obtain ⟨hE, h8, hd, hd2, hd6, hK, hK2, hK3, hx0, hxq, hs, hL, hc, ho⟩ := hJ'
  obtain ⟨h15, h16⟩ := stk_ib hs hK3
  obtain ⟨s, t, hR, s10, s11, sf, t1, t2⟩ := s11_d1 rw_ F hF (r74 := rJ (c 16 d) (c 4 0) K r74) hK hK4 ht (tE_0 hE0 h8).1 (tE_0 hE0 h8).2 hk
  obtain ⟨a, ⟨b, r'⟩, ha, hb, hQ⟩ := s2_k1 rw_ F hF (r6 := bgn c d K 1 6) (r7 := bgn c d K 1 7) (r8 := bgn c d K 1 8) (r9 := bgn c d K 1 9) (r10 := bgn c d K 1 10) (o4 := -100 - c 4 0) hK hK4 ht hE0 h8 hk.2.1 s10 s11 sf t1
  have hst := e_simple F (K := K) (d := d) (c := c) (i := 1) (by decide) (by decide) (kind_of F hF ht.1 hE.1 hk rfl) (by decide) hK hK4 hd hd6 h15 h16 ha
  obtain ⟨w1, w2, w3, w4⟩ := st_tail F (i := 1) ht.1 hJ hK4 h05 h013 (by omega) rfl (kR_l hk) hst hQ t2 (.inl ⟨.inr rfl, rfl, rfl⟩)
  exact ⟨_, b, r', hR.trans hb, w1, w2, w3, rfl, rfl, rfl, rfl, rfl, fun k hk => upd_ne (by omega), w4⟩
theorem st_s5 (rw_ : (Nat → Int32) → (Nat → Int32) → (Nat → Int32) → Int32 → Option ((Int32) × (Nat → Int32) × (Nat → Int32))) (F : Nat) (hF : 500 ≤ F) {n q d K : Nat} {r3 r71 r74 r77 s0 : Nat → Int32} {x : Int32} {c : Nat → Nat → Int32} (ht : tx n r3 r77) (hJ : aJ n r3 x c r71 r74 q d K) (hK4 : K < 40) (hE0 : tE 401 n r3 (c 2) s0 q) (h05 : (s0 5).toInt = ((K + 1 : Nat) : Int)) (h013 : (s0 13).toInt = (d : Nat)) (hk : kR n r3 q 5) :
    ∃ (c' : Nat → Nat → Int32) (b r' : Nat → Int32), fnX11_reads rw_ F s0 (rJ (c 16 d) (c 4 0) K r74) r77 (c 4 0) = some (b, r') ∧ bodyC F r3 (tup x c) = some (.inl (tup (x + 1) c')) ∧ smR n r3 x c c' s0 b r' q d K := by
  have hJ' := hJ
  obtain ⟨hE, h8, hd, hd2, hd6, hK, hK2, hK3, hx0, hxq, hs, hL, hc, ho⟩ := hJ'
  obtain ⟨h15, h16⟩ := stk_ib hs hK3
  obtain ⟨s, t, hR, s10, s11, sf, t1, t2⟩ := s11_d5 rw_ F hF (r74 := rJ (c 16 d) (c 4 0) K r74) hK hK4 ht (tE_0 hE0 h8).1 (tE_0 hE0 h8).2 hk
  obtain ⟨a, ⟨b, r'⟩, ha, hb, hQ⟩ := s2_k5 rw_ F hF (r6 := bgn c d K 5 6) (r7 := bgn c d K 5 7) (r8 := bgn c d K 5 8) (r9 := bgn c d K 5 9) (r10 := bgn c d K 5 10) (o4 := -100 - c 4 0) hK hK4 ht hE0 h8 hk.2.1 s10 s11 sf t1
  have hst := e_simple F (K := K) (d := d) (c := c) (i := 5) (by decide) (by decide) (kind_of F hF ht.1 hE.1 hk rfl) (by decide) hK hK4 hd hd6 h15 h16 ha
  obtain ⟨w1, w2, w3, w4⟩ := st_tail F (i := 5) ht.1 hJ hK4 h05 h013 (by omega) rfl (kR_l hk) hst hQ t2 (.inr (.inl ⟨rfl, rfl, rfl⟩))
  exact ⟨_, b, r', hR.trans hb, w1, w2, w3, rfl, rfl, rfl, rfl, rfl, fun k hk => upd_ne (by omega), w4⟩
theorem st_s6 (rw_ : (Nat → Int32) → (Nat → Int32) → (Nat → Int32) → Int32 → Option ((Int32) × (Nat → Int32) × (Nat → Int32))) (F : Nat) (hF : 500 ≤ F) {n q d K : Nat} {r3 r71 r74 r77 s0 : Nat → Int32} {x : Int32} {c : Nat → Nat → Int32} (ht : tx n r3 r77) (hJ : aJ n r3 x c r71 r74 q d K) (hK4 : K < 40) (hE0 : tE 401 n r3 (c 2) s0 q) (h05 : (s0 5).toInt = ((K + 1 : Nat) : Int)) (h013 : (s0 13).toInt = (d : Nat)) (hk : kR n r3 q 6) :
    ∃ (c' : Nat → Nat → Int32) (b r' : Nat → Int32), fnX11_reads rw_ F s0 (rJ (c 16 d) (c 4 0) K r74) r77 (c 4 0) = some (b, r') ∧ bodyC F r3 (tup x c) = some (.inl (tup (x + 1) c')) ∧ smR n r3 x c c' s0 b r' q d K := by
  have hJ' := hJ
  obtain ⟨hE, h8, hd, hd2, hd6, hK, hK2, hK3, hx0, hxq, hs, hL, hc, ho⟩ := hJ'
  obtain ⟨h15, h16⟩ := stk_ib hs hK3
  obtain ⟨s, t, hR, s10, s11, sf, t1, t2⟩ := s11_d6 rw_ F hF (r74 := rJ (c 16 d) (c 4 0) K r74) hK hK4 ht (tE_0 hE0 h8).1 (tE_0 hE0 h8).2 hk
  obtain ⟨a, ⟨b, r'⟩, ha, hb, hQ⟩ := s2_k6 rw_ F hF (r6 := bgn c d K 6 6) (r7 := bgn c d K 6 7) (r8 := bgn c d K 6 8) (r9 := bgn c d K 6 9) (r10 := bgn c d K 6 10) (o4 := -100 - c 4 0) hK hK4 ht hE0 h8 hk.2.1 s10 s11 sf t1
  have hst := e_simple F (K := K) (d := d) (c := c) (i := 6) (by decide) (by decide) (kind_of F hF ht.1 hE.1 hk rfl) (by decide) hK hK4 hd hd6 h15 h16 ha
  obtain ⟨w1, w2, w3, w4⟩ := st_tail F (i := 6) ht.1 hJ hK4 h05 h013 (by omega) rfl (kR_l hk) hst hQ t2 (.inr (.inr ⟨rfl, rfl, rfl⟩))
  exact ⟨_, b, r', hR.trans hb, w1, w2, w3, rfl, rfl, rfl, rfl, rfl, fun k hk => upd_ne (by omega), w4⟩
