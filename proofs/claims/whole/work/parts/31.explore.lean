/-! ===== the exploring, state by state ===== -/
abbrev T8 : Type := (Nat → Int32) × (Nat → Int32) × (Nat → Int32) × (Nat → Int32) × (Nat → Int32) × (Nat → Int32) × (Nat → Int32) × (Nat → Int32)
theorem gF_next {C : Int} {i n base m : Nat} {acc : Int} {r37 r32 r33 r34 r35 r38 r39 r40 r71 r80 r81 r82 r83 r84 r85 : Nat → Int32} (h : gF C i n base m acc r37 r32 r33 r34 r35 r38 r39 r40 r71 r80 r81 r82 r83 r84 r85) (hi : i < n) (hacc : acc = if (r33 i).toInt < C then 60 else 0) (hm : (r33 i).toInt < C ↔ 0 < m) {x y : Int32} (hx : x.toInt = base) (hy : y.toInt = base + m) :
    gF C (i + 1) n (base + m) 0 0 (upd (upd r37 i x) (i + 1) y) r32 r33 r34 r35 r38 r39 r40 r71 r80 r81 r82 (upd r83 (i + 1) 0) r84 r85 := by
  obtain ⟨⟨c1, c2, c3, c4⟩, ⟨d0, d1, d2, d3, d4, d5⟩, d6, d7, ⟨f1, f2, f3, f4, f5, f6⟩, f7, f8, f9, f10⟩ := h
  refine ⟨⟨c1, c2, c3, c4⟩, ⟨d0, d1, d2, d3, d4, d5⟩, d6, d7, ⟨by omega, by omega, by omega, by omega, ?_, rfl⟩, fun k hk => absurd hk (Nat.not_lt_zero k), fun s hs => ?_, fun z => absurd z (Nat.succ_ne_zero i), fun _ => ⟨?_, ?_⟩⟩
  · rw [upd_at]; rfl
  · by_cases hsi : s = i
    · subst hsi
      refine ⟨base, m, ?_, ?_, f4, Nat.le_refl _, ?_, f7, by rw [f6]; exact hacc, hm⟩
      · rw [upd_ne (by omega), upd_at]; exact hx
      · rw [upd_ne (by omega)]; exact f5
      · rw [upd_at]; exact hy
    · obtain ⟨f, a, h1, h2, h3, h4, h5, h6, h7, h8⟩ := f8 s (by omega)
      refine ⟨f, a, ?_, ?_, h3, by omega, ?_, h6, h7, h8⟩
      · rw [upd_ne (by omega), upd_ne hsi]; exact h1
      · rw [upd_ne (by omega)]; exact h2
      · rw [upd_ne (by omega)]
        by_cases hs1 : s + 1 = i
        · rw [hs1, upd_at, hx]
          have := (f10 (by omega)).2
          rw [hs1] at h5
          omega
        · rw [upd_ne hs1]; exact h5
  · by_cases hi0 : i = 0
    · subst hi0
      rw [upd_ne (by omega), upd_at, hx]
      have := f9 rfl
      omega
    · rw [upd_ne (by omega), upd_ne (by omega)]
      exact (f10 (by omega)).1
  · rw [upd_at]; omega
/-- at the end of the exploring -/
def exD (C : Int) (r32 r71 : Nat → Int32) (a : T8) (b : T7) : Prop := kpF r32 r71 a.1 b.1 ∧ ((∃ n base, gF C n n base 0 0 a.2.2.2.2.1 a.1 a.2.1 a.2.2.1 a.2.2.2.1 a.2.2.2.2.2.1 a.2.2.2.2.2.2.1 a.2.2.2.2.2.2.2 b.1 b.2.1 b.2.2.1 b.2.2.2.1 (upd b.2.2.2.2.1 n 0) b.2.2.2.2.2.1 b.2.2.2.2.2.2) ∨ mny a.1 b.1)
theorem s2_main (F : Nat) (hF : 600 ≤ F) {r18 r19 r20 r21 r22 r23 r24 r25 r26 r73 r87 r37 r32 r33 r34 r35 r38 r39 r40 r71 r80 r81 r82 r83 r84 r85 : Nat → Int32} (hP : pK r18 r19 r20 r21 r22 r23 r24 r25 r26 r73) (ht : tens r87) (h : gF (r18 0).toInt 0 1 0 0 0 r37 r32 r33 r34 r35 r38 r39 r40 r71 r80 r81 r82 (upd r83 0 0) r84 r85) :
    sp2 (mj_it (mj_u2 (fun z0 => (mj_u2 (fun z1 => (mj_u2 (fun z2 => (mj_u2 (fun z3 => (mj_u2 (fun z4 => (mj_u2 (fun z5 => (mj_u2 (fun z6 => (mj_u2 (fun z7 z8 => bdX4_explore_64 F r18 r19 r20 r21 r22 r23 r24 r25 r26 z0 z1 z2 z3 z4 z5 z6 z7 z8)))))))))))))))) F ((0 : Int32), r32, r33, r34, r35, r37, r38, r39, r40))
      (mj_it (mj_u2 (fun z0 => (mj_u2 (fun z1 => (mj_u2 (fun z2 => (mj_u2 (fun z3 => (mj_u2 (fun z4 => (mj_u2 (fun z5 => (mj_u2 (fun z6 z7 => bdX11_lays_66 F r73 r87 z0 z1 z2 z3 z4 z5 z6 z7)))))))))))))) F ((0 : Int32), r71, r80, r81, r82, r83, r84, r85)) (exD (r18 0).toInt r32 r71) := by
  have e0 : (0 : Int32).toInt = 0 := rfl
  have e1 : (1 : Int32).toInt = 1 := rfl
  have e200 : (200 : Int32).toInt = 200 := rfl
  refine sp2_it (J := fun (s : Int32 × T8) (t : Int32 × T7) => t.1 = s.1 ∧ kpF r32 r71 s.2.1 t.2.1 ∧ ∃ i : Nat, s.1.toInt = i ∧ i ≤ 200 ∧ ((∃ n base, i ≤ n ∧ gF (r18 0).toInt i n base 0 0 s.2.2.2.2.2.1 s.2.1 s.2.2.1 s.2.2.2.1 s.2.2.2.2.1 s.2.2.2.2.2.2.1 s.2.2.2.2.2.2.2.1 s.2.2.2.2.2.2.2.2 t.2.1 t.2.2.1 t.2.2.2.1 t.2.2.2.2.1 (upd t.2.2.2.2.2.1 i 0) t.2.2.2.2.2.2.1 t.2.2.2.2.2.2.2) ∨ mny s.2.1 t.2.1)) (fun s => (300 - s.1.toInt).toNat) ?_ F _ _ ?_ ?_
  · rintro ⟨x3, a32, a33, a34, a35, a37, a38, a39, a40⟩ ⟨x2, b71, b80, b81, b82, b83, b84, b85⟩ ⟨hx, hkp, i, i1, i2, hg⟩
    dsimp only at hx hkp i1 hg
    subst hx
    rcases hg with ⟨n, base, hin, hg⟩ | hg
    · have hcopy := hg
      obtain ⟨⟨c1, c2, c3, c4⟩, ⟨d0, d1, d2, d3, d4, d5⟩, d6, d7, ⟨f1, f2, f3, f4, f5, f6⟩, f7, f8, f9, f10⟩ := hg
      by_cases hend : i = n
      · refine Or.inr ⟨(a32, a33, a34, a35, a37, a38, a39, a40), (b71, b80, b81, b82, b83, b84, b85), ?_, ?_, hkp, Or.inl ⟨n, base, ?_⟩⟩
        · show bdX4_explore_64 F r18 r19 r20 r21 r22 r23 r24 r25 r26 x2 a32 a33 a34 a35 a37 a38 a39 a40 = _
          unfold bdX4_explore_64
          rw [if_pos (i_le.mpr (by omega))]
        · show bdX11_lays_66 F r73 r87 x2 b71 b80 b81 b82 b83 b84 b85 = _
          unfold bdX11_lays_66
          rw [if_pos (i_le.mpr (by omega))]
        · subst hend; exact hcopy
      · left
        have hi : i < n := by omega
        have hcx : x2.toNatClampNeg = i := by rw [i_cl, i1]; rfl
        have hix : mj_ib x2 200 = true := mj_ib_of (by omega) (by omega)
        have hix1 : mj_ib x2 201 = true := mj_ib_of (by omega) (by omega)
        have hx1 : (x2 + 1).toInt = ((i + 1 : Nat) : Int) := by rw [i_add (by omega) (by omega), i1, e1]; omega
        have hix2 : mj_ib (x2 + 1) 201 = true := mj_ib_of (by omega) (by omega)
        have hcx1 : (x2 + 1).toNatClampNeg = i + 1 := by rw [i_cl, hx1]; omega
        have hA : ∀ r, fnX4_leave F r18 r19 r20 r21 r22 r23 r24 r25 r26 a32 a33 a34 a35 a38 a39 a40 x2 = some r → bdX4_explore_64 F r18 r19 r20 r21 r22 r23 r24 r25 r26 x2 a32 a33 a34 a35 a37 a38 a39 a40 = some (.inl (x2 + 1, r.1, r.2.1, r.2.2.1, r.2.2.2.1, upd (upd a37 i (a32 3)) (i + 1) (r.1 3), r.2.2.2.2.1, r.2.2.2.2.2.1, r.2.2.2.2.2.2)) := by
          intro r hr
          unfold bdX4_explore_64
          rw [if_neg (fun z => by have := i_le.mp z; omega), if_neg (fun z => by have := i_le.mp z; omega), if_pos d4, if_pos hix1, hr, Option.bind_some, if_pos hix2, hcx, hcx1]
        obtain ⟨s1, s2, s3, s4, s5, s6, s7, s8, s9⟩ := d6 i hi
        by_cases hpl : (a33 i).toInt < (r18 0).toInt
        · obtain ⟨ra, rb, g1, g2, m, g3, g4, g5⟩ := s2_leave F hF hP ht hcopy hi i1 hpl
          have hB : bdX11_lays_66 F r73 r87 x2 b71 b80 b81 b82 b83 b84 b85 = some (.inl (x2 + 1, rb.1, rb.2.1, rb.2.2.1, rb.2.2.2.1, rb.2.2.2.2.1, rb.2.2.2.2.2.1, rb.2.2.2.2.2.2)) := by
            unfold bdX11_lays_66
            rw [if_neg (fun z => by have := i_le.mp z; omega), if_pos d5, if_pos hix, if_pos hix, hcx, if_neg (fun z => by have := i_le.mp z; rw [s1] at this; omega), g2, Option.bind_some]
          refine ⟨_, _, hA ra g1, hB, ⟨rfl, kpF_tr hkp g4, i + 1, hx1, by omega, ?_⟩, by dsimp only; omega⟩
          rcases g5 with ⟨n', q1, q2, q3, q4⟩ | g5
          · refine Or.inl ⟨n', base + m, by omega, ?_⟩
            dsimp only
            have hq4 := q4
            obtain ⟨-, -, -, -, ⟨w1, w2, w3, w4, w5, w6⟩, -⟩ := hq4
            exact gF_next q4 q1 (by rw [q2, if_pos hpl]) (by rw [q2]; omega) (by omega) (by omega)
          · exact Or.inr g5
        · have hl : fnX4_leave F r18 r19 r20 r21 r22 r23 r24 r25 r26 a32 a33 a34 a35 a38 a39 a40 x2 = some (a32, a33, a34, a35, a38, a39, a40) := by
            unfold fnX4_leave
            rw [if_pos hix, hcx, if_neg (fun z => hpl (i_lt.mp z))]
          have hB : bdX11_lays_66 F r73 r87 x2 b71 b80 b81 b82 b83 b84 b85 = some (.inl (x2 + 1, b71, b80, b81, b82, upd b83 i 0, b84, b85)) := by
            unfold bdX11_lays_66
            rw [if_neg (fun z => by have := i_le.mp z; omega), if_pos d5, if_pos hix, if_pos hix, hcx, if_pos (i_le.mpr (by rw [s1]; omega))]
          refine ⟨_, _, hA _ hl, hB, ⟨rfl, hkp, i + 1, hx1, by omega, Or.inl ⟨n, base + 0, by omega, ?_⟩⟩, by dsimp only; omega⟩
          dsimp only
          exact gF_next hcopy hi (by rw [if_neg hpl]) ⟨fun z => absurd z hpl, fun z => absurd z (Nat.not_lt_zero 0)⟩ (by omega) (by omega)
    · refine Or.inr ⟨(a32, a33, a34, a35, a37, a38, a39, a40), (b71, b80, b81, b82, b83, b84, b85), ?_, ?_, hkp, Or.inr hg⟩
      · show bdX4_explore_64 F r18 r19 r20 r21 r22 r23 r24 r25 r26 x2 a32 a33 a34 a35 a37 a38 a39 a40 = _
        unfold bdX4_explore_64
        have : ¬ a32 6 = 0 := by rw [hg.1]; decide
        split
        · rfl
        · split
          · rfl
          · first | rfl | rw [if_neg this]
      · show bdX11_lays_66 F r73 r87 x2 b71 b80 b81 b82 b83 b84 b85 = _
        unfold bdX11_lays_66
        have : ¬ b71 21 = 0 := by rw [hg.2.1]; decide
        split
        · rfl
        · first | rfl | rw [if_neg this]
  · exact ⟨rfl, kpF_rf, 0, e0, by omega, Or.inl ⟨1, 0, by omega, h⟩⟩
  · show (300 - (0 : Int32).toInt).toNat < F
    rw [e0]; omega
