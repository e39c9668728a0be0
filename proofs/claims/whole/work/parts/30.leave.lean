/-! ===== a statement is done, in both ===== -/
theorem s2_leadA (F : Nat) (hF : 600 ≤ F) {C : Int} {i base m : Nat} {acc : Int} {r37 r32 r71 : Nat → Int32} {p33 p34 : Int32} {a b : T7} (h : afF C i base m acc r37 r32 r71 p33 p34 a b) (hm : m < 10) {xi p v w : Int32} (hxi : xi.toInt = i) (hp : 0 ≤ p.toInt ∧ p.toInt ≤ C + 1) (hv : sx v) (hw : 0 ≤ w.toInt ∧ w.toInt ≤ 60) :
    sp2 (fnX4_lead F a.1 a.2.1 a.2.2.1 a.2.2.2.1 a.2.2.2.2.1 a.2.2.2.2.2.1 a.2.2.2.2.2.2 xi p v w) (fnX11_lead F b.1 b.2.1 b.2.2.1 b.2.2.2.1 b.2.2.2.2.1 b.2.2.2.2.2.1 b.2.2.2.2.2.2 xi p v w) (afF C i base (if w = 0 then m else m + 1) (acc + w.toInt) r37 r32 r71 p33 p34) := by
  have e0 : (0 : Int32).toInt = 0 := rfl
  obtain ⟨hk, hg⟩ := h
  rcases hg with ⟨n, g1, g2, g3, g4⟩ | hg
  · by_cases hw0 : w = 0
    · obtain ⟨k1, k2⟩ := s2_lead0 F (r32 := a.1) (r33 := a.2.1) (r34 := a.2.2.1) (r35 := a.2.2.2.1) (r38 := a.2.2.2.2.1) (r39 := a.2.2.2.2.2.1) (r40 := a.2.2.2.2.2.2) (r71 := b.1) (r80 := b.2.1) (r81 := b.2.2.1) (r82 := b.2.2.2.1) (r83 := b.2.2.2.2.1) (r84 := b.2.2.2.2.2.1) (r85 := b.2.2.2.2.2.2) (xi := xi) (p := p) (v := v) (Or.inl hw0)
      rw [k1, k2, if_pos hw0]
      refine sp2_some ⟨hk, Or.inl ⟨n, g1, g2, g3, ?_⟩⟩
      have : acc + w.toInt = acc := by rw [hw0, e0]; omega
      rw [this]
      exact g4
    · rw [if_neg hw0]
      have hw1 : ¬ w.toInt = 0 := fun z => hw0 (i_eq.mpr (by rw [e0]; exact z))
      refine sp2_mono (s2_lead F hF g4 g1 hm hxi hp hv ⟨by omega, hw.2⟩) ?_
      rintro a' b' ⟨l1, l2⟩
      refine ⟨kpF_tr hk l1, ?_⟩
      rcases l2 with ⟨n', m1, m2, m3, m4⟩ | l2
      · exact Or.inl ⟨n', m1, m2.trans g2, m3.trans g3, m4⟩
      · exact Or.inr l2
  · obtain ⟨k1, k2⟩ := s2_lead0 F (r32 := a.1) (r33 := a.2.1) (r34 := a.2.2.1) (r35 := a.2.2.2.1) (r38 := a.2.2.2.2.1) (r39 := a.2.2.2.2.2.1) (r40 := a.2.2.2.2.2.2) (r71 := b.1) (r80 := b.2.1) (r81 := b.2.2.1) (r82 := b.2.2.2.1) (r83 := b.2.2.2.2.1) (r84 := b.2.2.2.2.2.1) (r85 := b.2.2.2.2.2.2) (xi := xi) (p := p) (v := v) (w := w) (Or.inr ⟨by rw [hg.1]; decide, by rw [hg.2.1]; decide⟩)
    rw [k1, k2]
    exact sp2_some ⟨hk, Or.inr hg⟩
/-- behind a statement: some arcs, sixty sixtieths of them -/
def bhF (C : Int) (i base : Nat) (r37 r32 r71 : Nat → Int32) (p33 p34 : Int32) (a b : T7) : Prop := ∃ m, 1 ≤ m ∧ afF C i base m 60 r37 r32 r71 p33 p34 a b
theorem bhF_of {C : Int} {i base m : Nat} {acc : Int} {r37 r32 r71 : Nat → Int32} {p33 p34 : Int32} {a b : T7} (h : afF C i base m acc r37 r32 r71 p33 p34 a b) (h1 : 1 ≤ m) (h2 : acc = 60) : bhF C i base r37 r32 r71 p33 p34 a b := ⟨m, h1, by rw [← h2]; exact h⟩
theorem s2_leave (F : Nat) (hF : 600 ≤ F) {i n base : Nat} {r18 r19 r20 r21 r22 r23 r24 r25 r26 r73 r87 r37 r32 r33 r34 r35 r38 r39 r40 r71 r80 r81 r82 r83 r84 r85 : Nat → Int32} (hP : pK r18 r19 r20 r21 r22 r23 r24 r25 r26 r73) (ht : tens r87) (h : gF (r18 0).toInt i n base 0 0 r37 r32 r33 r34 r35 r38 r39 r40 r71 r80 r81 r82 r83 r84 r85) (hi : i < n) {xi : Int32} (hxi : xi.toInt = i) (hpl : (r33 i).toInt < (r18 0).toInt) :
    sp2 (fnX4_leave F r18 r19 r20 r21 r22 r23 r24 r25 r26 r32 r33 r34 r35 r38 r39 r40 xi) (fnX11_goesOn F r71 r73 r80 r81 r82 r83 r84 r85 r87 xi) (bhF (r18 0).toInt i base r37 r32 r71 (r33 i) (r34 i)) := by
  have hcopy := h
  obtain ⟨⟨c1, c2, c3, c4⟩, ⟨d0, d1, d2, d3, d4, d5⟩, d6, d7, -⟩ := h
  obtain ⟨s1, s2, s3, s4, s5, s6, s7, s8, s9⟩ := d6 i hi
  obtain ⟨P0, P1, P2⟩ := hP
  have e0 : (0 : Int32).toInt = 0 := rfl
  have e1 : (1 : Int32).toInt = 1 := rfl
  have e2 : (2 : Int32).toInt = 2 := rfl
  have e60 : (60 : Int32).toInt = 60 := rfl
  have hix : mj_ib xi 200 = true := mj_ib_of (by omega) (by omega)
  have hcx : xi.toNatClampNeg = i := by rw [i_cl, hxi]; rfl
  have start : afF (r18 0).toInt i base 0 0 r37 r32 r71 (r33 i) (r34 i) (r32, r33, r34, r35, r38, r39, r40) (r71, r80, r81, r82, r83, r84, r85) := ⟨kpF_rf, Or.inl ⟨n, hi, rfl, rfl, hcopy⟩⟩
  generalize hk : (r33 i).toInt.toNat = k at *
  have hpk : (r33 i).toInt = k := by omega
  have hck : (r33 i).toNatClampNeg = k := by rw [i_cl]; omega
  have hib : mj_ib (r33 i) 40 = true := mj_ib_of (by omega) (by omega)
  obtain ⟨K1, K2, K3, K4, K5, K6, K7, K8, K9, K10, K11, K12, K13, K14, K15, K16, K17⟩ := P2 k (by omega)
  have of0 := g_of F r73 (x := r33 i) (w := 0) k 0 hpk rfl (by omega)
  have of1 := g_of F r73 (x := r33 i) (w := 1) k 1 hpk rfl (by omega)
  have of2 := g_of F r73 (x := r33 i) (w := 2) k 2 hpk rfl (by omega)
  have of3 := g_of F r73 (x := r33 i) (w := 3) k 3 hpk rfl (by omega)
  have of4 := g_of F r73 (x := r33 i) (w := 4) k 4 hpk rfl (by omega)
  rw [Nat.add_zero, K1] at of0
  rw [K4] at of3
  rw [K7] at of4
  unfold fnX4_leave fnX11_goesOn
  refine sp2_lp hix ?_
  rw [hcx]
  refine sp2_lp (i_lt.mpr hpl) (sp2_lp hix (sp2_lp hib (sp2_lp hib ?_)))
  refine sp2_rp hix (sp2_rp hix ?_)
  rw [s1, s2, of0, Option.bind_some, hck]
  have hdef : 3 ≤ (r19 k).toInt → (r19 k).toInt ≤ 5 → sp2 (jnX4_leave_216 F r18 r19 r20 r21 r22 r23 r24 r25 r26 xi (r33 i) (r34 i) r32 r33 r34 r35 r38 r39 r40) (jnX11_goesOn_217 F r73 r87 xi (r33 i) (r34 i) r71 r80 r81 r82 r83 r84 r85) (bhF (r18 0).toInt i base r37 r32 r71 (r33 i) (r34 i)) := by
    intro k3 k5
    obtain ⟨S1, S2⟩ := K17 ⟨k3, k5⟩
    unfold jnX4_leave_216 jnX11_goesOn_217
    refine sp2_bind (s2_holds F ht k hpk (by omega) s6 (K16 (Or.inr ⟨k3, k5⟩)) S1 S2) ?_
    rintro o o' rfl
    by_cases ho : o = 0
    · refine sp2_lp ho (sp2_rp ho (sp2_lp hib ?_))
      rw [of4, Option.bind_some, hck]
      have hfar : 0 ≤ (r26 k).toInt ∧ (r26 k).toInt ≤ (r18 0).toInt + 1 := by
        by_cases h5 : (r19 k).toInt = 5
        · have := K9 h5; omega
        · have := K8 ⟨by omega, by omega⟩; omega
      refine sp2_bind (s2_leadA F hF start (by omega) hxi hfar s6 (w := 60) ⟨by decide, by decide⟩) ?_
      intro a b hab
      exact sp2_some (bhF_of hab (by rw [if_neg (by decide)]; omega) (by rw [e60]; omega))
    · refine sp2_ln ho (sp2_rn ho (sp2_lp hib ?_))
      rw [of3, Option.bind_some, hck]
      refine sp2_bind (s2_leadA F hF start (by omega) hxi ⟨K5, by omega⟩ s6 (w := 60) ⟨by decide, by decide⟩) ?_
      intro a b hab
      exact sp2_some (bhF_of hab (by rw [if_neg (by decide)]; omega) (by rw [e60]; omega))
  by_cases k0 : r19 k = 0
  · have k0' : (r19 k).toInt = 0 := by rw [k0]; rfl
    refine sp2_lp k0 (sp2_rp k0 (sp2_lp hib (sp2_lp hib ?_)))
    obtain ⟨v1, v2⟩ := K10 (by omega)
    rw [v1] at of1
    have e12 : (12 : Int32).toInt = 12 := rfl
    have e5 : (5 : Int32).toInt = 5 := rfl
    have a0 : (12 * r33 i).toInt = 12 * k := by rw [i_mul (by rw [e12]; omega) (by rw [e12]; omega), hpk, e12]
    have a1 : (12 * r33 i + 5).toInt = ((12 * k + 5 : Nat) : Int) := by rw [i_add (by omega) (by omega), a0, e5]; omega
    rw [of3, of1, Option.bind_some, Option.bind_some]
    have hs := s2_sum F ht (12 * k + 5) a1 (by omega) s6 (K16 (Or.inl k0'))
    obtain ⟨x, y, hx, hy, rfl, hx0, hx9⟩ := hs
    have has : fnX7_assigned F r22 (r33 i) (r34 i) = some x := by
      unfold fnX7_assigned
      rw [if_pos hib, hck, hx]
      rfl
    rw [has, hy, Option.bind_some, Option.bind_some, g_put F (r34 i) x v2, g_with F ht (r34 i) x v2, Option.bind_some, Option.bind_some]
    refine sp2_bind (s2_leadA F hF start (by omega) hxi ⟨K5, by omega⟩ (pt_i s6 ⟨hx0, hx9⟩ _).2 (w := 60) ⟨by decide, by decide⟩) ?_
    intro a b hab
    exact sp2_some (bhF_of hab (by rw [if_neg (by decide)]; omega) (by rw [e60]; omega))
  refine sp2_ln k0 (sp2_rn k0 ?_)
  by_cases k1 : r19 k = 1
  · have k1' : (r19 k).toInt = 1 := by rw [k1]; rfl
    refine sp2_lp k1 (sp2_rp k1 ?_)
    obtain ⟨v1, v2⟩ := K10 (by omega)
    have n1 := K12 (Or.inl k1')
    have n2 := K13 k1'
    rw [v1] at of1
    rw [n1] at of2
    have hq : ∃ q : Int, (r21 k).toInt = q ∧ 2 ≤ q ∧ q ≤ 10 ∧ q * (60 / q) = 60 := by
      refine ⟨_, rfl, by omega, by omega, ?_⟩
      have : (r21 k).toInt = 2 ∨ (r21 k).toInt = 3 ∨ (r21 k).toInt = 4 ∨ (r21 k).toInt = 5 ∨ (r21 k).toInt = 6 ∨ (r21 k).toInt = 10 := by omega
      rcases this with z | z | z | z | z | z <;> rw [z] <;> rfl
    obtain ⟨q, q1, q2, q3, q4⟩ := hq
    have hsh : ((60 : Int32) / r21 k).toInt = 60 / q := by rw [i_div (by rw [e60]; omega) (by omega), e60, q1]
    have hshb : 1 ≤ 60 / q ∧ 60 / q ≤ 30 := by
      have : q = 2 ∨ q = 3 ∨ q = 4 ∨ q = 5 ∨ q = 6 ∨ q = 7 ∨ q = 8 ∨ q = 9 ∨ q = 10 := by omega
      rcases this with z | z | z | z | z | z | z | z | z <;> rw [z] <;> decide
    refine sp2_bind (sp2_it (J := fun (s : Int32 × T7) (t : Int32 × T7) => t.1 = s.1 ∧ ∃ x : Nat, s.1.toInt = x ∧ (x : Int) ≤ q ∧ afF (r18 0).toInt i base x (x * (60 / q)) r37 r32 r71 (r33 i) (r34 i) s.2 t.2) (Q := fun a b => bhF (r18 0).toInt i base r37 r32 r71 (r33 i) (r34 i) a b) (fun s => (20 - s.1.toInt).toNat) ?_ F _ _ ?_ ?_) ?_
    · rintro ⟨x6, a⟩ ⟨x4, b⟩ ⟨hx, x, x1, x2, x3⟩
      dsimp only at hx x1 x3
      subst hx
      obtain ⟨a32, a33, a34, a35, a38, a39, a40⟩ := a
      obtain ⟨b71, b80, b81, b82, b83, b84, b85⟩ := b
      by_cases hend : q ≤ x
      · refine Or.inr ⟨(a32, a33, a34, a35, a38, a39, a40), (b71, b80, b81, b82, b83, b84, b85), ?_, ?_, ?_⟩
        · show bdX4_leave_117 F r20 r25 xi (r33 i) (r34 i) (r21 k) x4 a32 a33 a34 a35 a38 a39 a40 = _
          unfold bdX4_leave_117
          rw [if_pos (i_le.mpr (by omega))]
        · show bdX11_goesOn_105 F r73 r87 xi (r33 i) (r34 i) x4 b71 b80 b81 b82 b83 b84 b85 = _
          unfold bdX11_goesOn_105
          rw [of2, Option.bind_some, if_pos (i_le.mpr (by omega))]
        · have : (x : Int) = q := by omega
          exact bhF_of x3 (by omega) (by rw [this]; exact q4)
      · left
        have hdig : 0 ≤ x4.toInt ∧ x4.toInt ≤ 9 := ⟨by omega, by omega⟩
        obtain ⟨a', b', g1, g2, g3⟩ := s2_leadA F hF x3 (by omega) hxi (p := r25 k) ⟨K5, by omega⟩ (pt_i s6 hdig (r20 k).toNatClampNeg).2 (w := 60 / r21 k) ⟨by omega, by omega⟩
        have hx1 : (x4 + 1).toInt = ((x + 1 : Nat) : Int) := by rw [i_add (by omega) (by omega), x1, e1]; omega
        refine ⟨(x4 + 1, a'), (x4 + 1, b'), ?_, ?_, ⟨rfl, x + 1, hx1, by omega, ?_⟩, by dsimp only; omega⟩
        · show bdX4_leave_117 F r20 r25 xi (r33 i) (r34 i) (r21 k) x4 a32 a33 a34 a35 a38 a39 a40 = _
          unfold bdX4_leave_117
          rw [if_neg (fun z => by have := i_le.mp z; omega), if_pos hib, if_pos hib, hck, g_put F (r34 i) x4 v2, Option.bind_some, if_neg (fun z => by have := i_eq.mp z; omega)]
          dsimp only at g1
          rw [g1]
          rfl
        · show bdX11_goesOn_105 F r73 r87 xi (r33 i) (r34 i) x4 b71 b80 b81 b82 b83 b84 b85 = _
          unfold bdX11_goesOn_105
          rw [of2, Option.bind_some, if_neg (fun z => by have := i_le.mp z; omega), of3, of1, Option.bind_some, Option.bind_some, g_with F ht (r34 i) x4 v2, Option.bind_some, Option.bind_some, if_neg (fun z => by have := i_eq.mp z; omega)]
          dsimp only at g2
          rw [g2]
          rfl
        · rw [if_neg (fun z => by have := i_eq.mp z; omega), hsh] at g3
          have : ((x + 1 : Nat) : Int) * (60 / q) = (x : Int) * (60 / q) + 60 / q := by
            rw [Int.natCast_add, Int.add_mul]; omega
          rw [this]
          exact g3
    · refine ⟨rfl, 0, e0, by omega, ?_⟩
      have : ((0 : Nat) : Int) * (60 / q) = 0 := by omega
      rw [this]
      exact start
    · show (20 - (0 : Int32).toInt).toNat < F
      rw [e0]; omega
    · intro a b hab
      exact sp2_some hab
  refine sp2_ln k1 (sp2_rn k1 ?_)
  by_cases k2 : r19 k = 2
  · have k2' : (r19 k).toInt = 2 := by rw [k2]; rfl
    refine sp2_lp k2 (sp2_rp k2 (sp2_lp hib ?_))
    have n1 := K12 (Or.inr k2')
    obtain ⟨n2, n3⟩ := K14 k2'
    obtain ⟨n4, n5⟩ := K8 ⟨by omega, by omega⟩
    rw [n1] at of2
    rw [of3, of2, Option.bind_some, Option.bind_some]
    refine sp2_bind (s2_leadA F hF start (by omega) hxi ⟨K5, by omega⟩ s6 (w := r21 k) ⟨n2, n3⟩) ?_
    intro a b hab
    refine sp2_lp hib ?_
    rw [of4, Option.bind_some, Option.bind_some]
    have hsub : ((60 : Int32) - r21 k).toInt = 60 - (r21 k).toInt := by rw [i_sub (by rw [e60]; omega) (by rw [e60]; omega), e60]
    refine sp2_bind (s2_leadA F hF hab (by split <;> omega) hxi ⟨n4, by omega⟩ s6 (w := 60 - r21 k) ⟨by omega, by omega⟩) ?_
    intro a' b' hab'
    refine sp2_some (bhF_of hab' ?_ ?_)
    · by_cases w1 : r21 k = 0
      · rw [if_pos w1, if_neg (fun z => by have := i_eq.mp z; rw [hsub, w1] at this; omega)]; omega
      · rw [if_neg w1]; split <;> omega
    · rw [hsub]; omega
  refine sp2_ln k2 (sp2_rn k2 ?_)
  have kn0 : ¬ (r19 k).toInt = 0 := fun z => k0 (i_eq.mpr (by rw [e0]; exact z))
  have kn1 : ¬ (r19 k).toInt = 1 := fun z => k1 (i_eq.mpr (by rw [e1]; exact z))
  have kn2 : ¬ (r19 k).toInt = 2 := fun z => k2 (i_eq.mpr (by rw [e2]; exact z))
  by_cases k3 : r19 k = 3
  · have z : (r19 k).toInt = 3 := by rw [k3]; rfl
    exact sp2_lp k3 (sp2_rp k3 (hdef (by omega) (by omega)))
  refine sp2_ln k3 (sp2_rn k3 ?_)
  by_cases k4 : r19 k = 4
  · have z : (r19 k).toInt = 4 := by rw [k4]; rfl
    exact sp2_lp k4 (sp2_rp k4 (hdef (by omega) (by omega)))
  refine sp2_ln k4 (sp2_rn k4 ?_)
  by_cases k5 : r19 k = 5
  · have z : (r19 k).toInt = 5 := by rw [k5]; rfl
    exact sp2_lp k5 (sp2_rp k5 (hdef (by omega) (by omega)))
  refine sp2_ln k5 (sp2_rn k5 ?_)
  have kn3 : ¬ (r19 k).toInt = 3 := fun z => k3 (i_eq.mpr (by rw [z]; rfl))
  have kn4 : ¬ (r19 k).toInt = 4 := fun z => k4 (i_eq.mpr (by rw [z]; rfl))
  have kn5 : ¬ (r19 k).toInt = 5 := fun z => k5 (i_eq.mpr (by rw [z]; rfl))
  have k6 : r19 k = 6 := i_eq.mpr (by have e6 : (6 : Int32).toInt = 6 := rfl; omega)
  refine sp2_lp k6 (sp2_rp k6 (sp2_lp hib ?_))
  rw [of3, Option.bind_some]
  refine sp2_bind (s2_leadA F hF start (by omega) hxi ⟨K5, by omega⟩ s6 (w := 60) ⟨by decide, by decide⟩) ?_
  intro a b hab
  exact sp2_some (bhF_of hab (by rw [if_neg (by decide)]; omega) (by rw [e60]; omega))
