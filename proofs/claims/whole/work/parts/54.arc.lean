/-! ===== arc ===== -/
theorem h_arc_no (F : Nat) {I : mj_IT} {b : T8} (b0 : b.1 0 = 0) (x1 x2 x3 : Int32) : jnX11_arc_56 F (I 73) (I 75) (I 87) x1 x2 x3 0 b.1 (I 72) b.2.1 b.2.2.1 b.2.2.2.1 b.2.2.2.2.1 b.2.2.2.2.2.1 b.2.2.2.2.2.2.1 b.2.2.2.2.2.2.2 = some (0, upd b.1 0 2, upd (I 72) 0 (I 72 0 + 1), b.2) := by
  unfold jnX11_arc_56
  rw [q_fine0 F b0 (show ¬ (2 : Int32) = 0 from by decide) (by decide), Option.bind_some, if_pos rfl]
  rfl
theorem qq_arc (F : Nat) (hF : 2100 ≤ F) {I : mj_IT} (hp : pK (I 18) (I 19) (I 20) (I 21) (I 22) (I 23) (I 24) (I 25) (I 26) (I 73)) (ht : tens (I 87)) (hw : ∃ a b, lQ I a b ∧ exG F I = some a ∧ lyG F I (rL I (upd (I 71) 0 0)) = some b ∧ b.1 0 = 0 ∧ ((gX I a b ∧ a.1 6 = 0 ∧ b.1 21 = 0 ∧ nsG F I = some (.inl (a.1, a.2.1, a.2.2.1, a.2.2.2.1, a.2.2.2.2.1, a.2.2.2.2.2.1, a.2.2.2.2.2.2.1, a.2.2.2.2.2.2.2.1, a.2.2.2.2.2.2.2.2, I 70)) ∧ fwG F I = some (1, b.1, I 72, b.2)) ∨ (a.1 6 = 1 ∧ b.1 21 = 1 ∧ nsG F I = some (.inr (2, a.1, a.2.1, a.2.2.1, a.2.2.2.1, a.2.2.2.2.1, a.2.2.2.2.2.1, a.2.2.2.2.2.2.1, a.2.2.2.2.2.2.2.1, a.2.2.2.2.2.2.2.2, upd (I 70) 2 (I 70 2 + 1))) ∧ fwG F I = some (0, upd b.1 0 1, upd (I 72) 2 (I 72 2 + 1), b.2)))) (x1 x2 x3 : Int32) :
    ∃ (a : T9) (b : T8), lQ I a b ∧ b.1 0 = 0 ∧ ((∃ v : Int32, fnX10_arc F (I 1) (I 18) (I 19) (I 20) (I 21) (I 22) (I 23) (I 24) (I 25) (I 26) (I 32) (I 33) (I 34) (I 35) (I 36) (I 37) (I 38) (I 39) (I 40) (I 70) x1 x2 x3 = some (.inl (v, a.1, a.2.1, a.2.2.1, a.2.2.2.1, a.2.2.2.2.1, a.2.2.2.2.2.1, a.2.2.2.2.2.2.1, a.2.2.2.2.2.2.2.1, a.2.2.2.2.2.2.2.2, I 70)) ∧ fnX11_arc F (I 71) (I 72) (I 73) (I 75) (I 80) (I 81) (I 82) (I 83) (I 84) (I 85) (I 86) (I 87) x1 x2 x3 = some (v, b.1, I 72, b.2)) ∨ (∃ (k : Nat) (e : Int32) (t : Nat), ok_arc k = true ∧ wk_arc k = e ∧ ¬ e = 0 ∧ t < 3 ∧ fnX10_arc F (I 1) (I 18) (I 19) (I 20) (I 21) (I 22) (I 23) (I 24) (I 25) (I 26) (I 32) (I 33) (I 34) (I 35) (I 36) (I 37) (I 38) (I 39) (I 40) (I 70) x1 x2 x3 = some (.inr (k, a.1, a.2.1, a.2.2.1, a.2.2.2.1, a.2.2.2.2.1, a.2.2.2.2.2.1, a.2.2.2.2.2.2.1, a.2.2.2.2.2.2.2.1, a.2.2.2.2.2.2.2.2, upd (I 70) t (I 70 t + 1))) ∧ fnX11_arc F (I 71) (I 72) (I 73) (I 75) (I 80) (I 81) (I 82) (I 83) (I 84) (I 85) (I 86) (I 87) x1 x2 x3 = some (0, upd b.1 0 e, upd (I 72) t (I 72 t + 1), b.2))) := by
  have e0 : (0 : Int32).toInt = 0 := rfl
  have e1 : (1 : Int32).toInt = 1 := rfl
  have e10 : (10 : Int32).toInt = 10 := rfl
  have l0 : (0 : Int64).toInt = 0 := rfl
  obtain ⟨a, b, hl, ha, hb, b0, hd⟩ := hw
  refine ⟨a, b, hl, b0, ?_⟩
  rcases hd with ⟨⟨n, fr, na, tg, sh, hG⟩, m1, m2, hn, hf⟩ | ⟨m1, m2, hn, hf⟩
  · obtain ⟨⟨y1, y2, y3, y4⟩, ⟨z1, z2, z3, z4, z5, z6⟩, gs, gd, gc, gr, gh, g25, gce, gct, g37, gt⟩ := id hG
    by_cases h1 : 0 ≤ x1.toInt ∧ x1.toInt < (n : Int)
    · have i1 : fnX10_needState F a.1 (I 70) x1 = some (.inl (I 70)) := q_sta_in F a.1 (I 70) (by rw [y3]; exact h1)
      have j1 : fnX11_isState F b.1 x1 = some 1 := q_isSta_in F (by rw [y4]; omega) (by rw [y4]; exact h1)
      obtain ⟨s, hs⟩ : ∃ s, x1.toNatClampNeg = s := ⟨_, rfl⟩
      have hsn : s < n := by rw [← hs, i_cl]; omega
      have hsx : x1.toInt = (s : Nat) := by rw [← hs, i_cl]; omega
      have hi : mj_ib x1 200 = true := mj_ib_of (by omega) (by omega)
      obtain ⟨G1, G2, G3, G4⟩ := gc s hsn
      obtain ⟨H1, H2, H3⟩ := gr s hsn
      have s1 : (x1 + 1).toInt = ((s + 1 : Nat) : Int) := by rw [i_add (by omega) (by omega), hsx, e1]; omega
      have t1 : (x1 + 1).toNatClampNeg = s + 1 := by rw [i_cl, s1]; rfl
      have ao : fnX4_arcsOf F a.2.2.2.2.2.1 x1 = some (b.2.2.2.2.1 s) := by
        unfold fnX4_arcsOf
        have ee : a.2.2.2.2.2.1 (s + 1) - a.2.2.2.2.2.1 s = b.2.2.2.2.1 s := i_eq.mpr (by rw [i_sub (by omega) (by omega), G1, G2, H1]; omega)
        rw [if_pos (mj_ib_of (by omega) (by omega)), if_pos (mj_ib_of (by omega) (by omega)), t1, hs, ee]
      have es : (b.2.2.2.2.1 s - 1).toInt = (na s : Int) - 1 := by rw [i_sub (by omega) (by omega), H1, e1]
      have X : fnX10_arc F (I 1) (I 18) (I 19) (I 20) (I 21) (I 22) (I 23) (I 24) (I 25) (I 26) (I 32) (I 33) (I 34) (I 35) (I 36) (I 37) (I 38) (I 39) (I 40) (I 70) x1 x2 x3 = (if x2 < 0 then jnX10_arc_25 F (I 1) (I 18) (I 19) (I 20) (I 21) (I 22) (I 23) (I 24) (I 25) (I 26) x1 x2 x3 a.1 a.2.1 a.2.2.1 a.2.2.2.1 a.2.2.2.2.1 a.2.2.2.2.2.1 a.2.2.2.2.2.2.1 a.2.2.2.2.2.2.2.1 a.2.2.2.2.2.2.2.2 (I 70) else (if x2 < b.2.2.2.2.1 s then jnX10_arc_29 F (I 1) (I 18) (I 19) (I 20) (I 21) (I 22) (I 23) (I 24) (I 25) (I 26) x1 x2 x3 a.1 a.2.1 a.2.2.1 a.2.2.2.1 a.2.2.2.2.1 a.2.2.2.2.2.1 a.2.2.2.2.2.2.1 a.2.2.2.2.2.2.2.1 a.2.2.2.2.2.2.2.2 (I 70) else jnX10_arc_25 F (I 1) (I 18) (I 19) (I 20) (I 21) (I 22) (I 23) (I 24) (I 25) (I 26) x1 x2 x3 a.1 a.2.1 a.2.2.1 a.2.2.2.1 a.2.2.2.2.1 a.2.2.2.2.2.1 a.2.2.2.2.2.2.1 a.2.2.2.2.2.2.2.1 a.2.2.2.2.2.2.2.2 (I 70))) := by
        unfold fnX10_arc
        change (nsG F I).bind _ = _
        rw [hn, Option.bind_some, Sum.elim_inl]
        change (fnX10_needState F a.1 (I 70) x1).bind _ = _
        rw [i1, Option.bind_some, Sum.elim_inl]
        show (if x2 < 0 then _ else (fnX4_arcsOf F a.2.2.2.2.2.1 x1).bind _) = _
        rw [ao]
        rfl
      have Y : fnX11_arc F (I 71) (I 72) (I 73) (I 75) (I 80) (I 81) (I 82) (I 83) (I 84) (I 85) (I 86) (I 87) x1 x2 x3 = (fnX11_lies F x2.toInt64 0 ((b.2.2.2.2.1 s - 1).toInt64)).bind (fun o10 => (if o10 = 0 then jnX11_arc_56 F (I 73) (I 75) (I 87) x1 x2 x3 0 b.1 (I 72) b.2.1 b.2.2.1 b.2.2.2.1 b.2.2.2.2.1 b.2.2.2.2.2.1 b.2.2.2.2.2.2.1 b.2.2.2.2.2.2.2 else jnX11_arc_56 F (I 73) (I 75) (I 87) x1 x2 x3 1 b.1 (I 72) b.2.1 b.2.2.1 b.2.2.2.1 b.2.2.2.2.1 b.2.2.2.2.2.1 b.2.2.2.2.2.2.1 b.2.2.2.2.2.2.2)) := by
        unfold fnX11_arc
        change (fwG F I).bind _ = _
        rw [hf, Option.bind_some, if_neg (show ¬ (1 : Int32) = 0 from by decide)]
        change (fnX11_isState F b.1 x1).bind _ = _
        rw [j1, Option.bind_some, if_neg (show ¬ (1 : Int32) = 0 from by decide), Option.bind_some, if_neg (show ¬ (1 : Int32) = 0 from by decide)]
        unfold jnX11_arc_41
        rw [if_pos hi, hs]
        rfl
      by_cases h2 : 0 ≤ x2.toInt ∧ x2.toInt < (na s : Int)
      · have X2 : fnX10_arc F (I 1) (I 18) (I 19) (I 20) (I 21) (I 22) (I 23) (I 24) (I 25) (I 26) (I 32) (I 33) (I 34) (I 35) (I 36) (I 37) (I 38) (I 39) (I 40) (I 70) x1 x2 x3 = jnX10_arc_29 F (I 1) (I 18) (I 19) (I 20) (I 21) (I 22) (I 23) (I 24) (I 25) (I 26) x1 x2 x3 a.1 a.2.1 a.2.2.1 a.2.2.2.1 a.2.2.2.2.1 a.2.2.2.2.2.1 a.2.2.2.2.2.2.1 a.2.2.2.2.2.2.2.1 a.2.2.2.2.2.2.2.2 (I 70) := by
          rw [X, if_neg (fun z => by have := i_lt.mp z; omega), if_pos (i_lt.mpr (by rw [H1]; exact h2.2))]
        have Y2 : fnX11_arc F (I 71) (I 72) (I 73) (I 75) (I 80) (I 81) (I 82) (I 83) (I 84) (I 85) (I 86) (I 87) x1 x2 x3 = jnX11_arc_56 F (I 73) (I 75) (I 87) x1 x2 x3 1 b.1 (I 72) b.2.1 b.2.2.1 b.2.2.2.1 b.2.2.2.2.1 b.2.2.2.2.2.1 b.2.2.2.2.2.2.1 b.2.2.2.2.2.2.2 := by
          rw [Y, q_lies3_in F (a := 0) ⟨h2.1, by rw [l_i32, es]; omega⟩, Option.bind_some, if_neg (show ¬ (1 : Int32) = 0 from by decide)]
        rw [X2, Y2]
        unfold jnX10_arc_29 jnX11_arc_56
        rw [q_fine F b0, Option.bind_some, if_neg (show ¬ (1 : Int32) = 0 from by decide)]
        by_cases h3 : 0 ≤ x3.toInt ∧ x3.toInt ≤ 1
        · left
          obtain ⟨k, hk⟩ : ∃ k : Nat, x2.toInt = (k : Nat) := ⟨x2.toInt.toNat, by omega⟩
          have hkn : k < na s := by omega
          obtain ⟨T1, T2⟩ := G4 k hkn
          obtain ⟨U1, U2⟩ := H3 k hkn
          obtain ⟨V1, V2, V3⟩ := (gh s hsn).1 k hkn
          have p1 : (a.2.2.2.2.2.1 s + x2).toInt = ((fr s + k : Nat) : Int) := by rw [i_add (by omega) (by omega), G1, hk]; omega
          have p2 : (a.2.2.2.2.2.1 s + x2).toNatClampNeg = fr s + k := by rw [i_cl, p1]; omega
          have x10 : (10 * x1).toInt = 10 * (s : Nat) := by rw [i_mul (by rw [e10]; omega) (by rw [e10]; omega), hsx, e10]
          have p3 : (10 * x1 + x2).toInt = ((10 * s + k : Nat) : Int) := by rw [i_add (by omega) (by omega), x10, hk]; omega
          have p4 : (10 * x1 + x2).toNatClampNeg = 10 * s + k := by rw [i_cl, p3]; omega
          have b1 : mj_ib (a.2.2.2.2.2.1 s + x2) 2000 = true := mj_ib_of (by omega) (by omega)
          have b2 : mj_ib (10 * x1 + x2) 2000 = true := mj_ib_of (by omega) (by omega)
          have b3 : mj_ib x1 201 = true := mj_ib_of (by omega) (by omega)
          rw [q_num_in F (I 70) (a := 0) (b := 1) h3, Option.bind_some, Sum.elim_inl, if_pos b3, hs, p2, q_lies3_in F (a := 0) (b := 1) h3, Option.bind_some]
          change ∃ v : Int32, _ ∧ (fnX11_isFine F b.1 (I 72) 1 3 1).bind _ = _
          rw [q_fine F b0, Option.bind_some, if_neg (show ¬ (1 : Int32) = 0 from by decide), p4]
          by_cases c0 : x3 = 0
          · refine ⟨a.2.2.2.2.2.2.1 (fr s + k), ?_, ?_⟩
            · rw [if_pos c0, if_pos b1]
            · rw [if_pos c0, if_pos b2, i_eq.mpr (T1.trans U1.symm)]
          · refine ⟨a.2.2.2.2.2.2.2.1 (fr s + k), ?_, ?_⟩
            · rw [if_neg c0, if_pos b1]
            · rw [if_neg c0, if_pos b2, i_eq.mpr (V1.trans V2.symm)]
        · right
          refine ⟨1, 3, 1, rfl, rfl, by decide, by decide, ?_, ?_⟩
          · rw [q_num_out F (I 70) (a := 0) (b := 1) h3]
            rfl
          · rw [q_lies3_out F (a := 0) (b := 1) h3, Option.bind_some]
            change (fnX11_isFine F b.1 (I 72) 0 3 1).bind _ = _
            rw [q_fine0 F b0 (show ¬ (3 : Int32) = 0 from by decide) (by decide), Option.bind_some, if_pos rfl]
            rfl
      · right
        refine ⟨0, 2, 0, rfl, rfl, by decide, by decide, ?_, ?_⟩
        · have X2 : fnX10_arc F (I 1) (I 18) (I 19) (I 20) (I 21) (I 22) (I 23) (I 24) (I 25) (I 26) (I 32) (I 33) (I 34) (I 35) (I 36) (I 37) (I 38) (I 39) (I 40) (I 70) x1 x2 x3 = jnX10_arc_25 F (I 1) (I 18) (I 19) (I 20) (I 21) (I 22) (I 23) (I 24) (I 25) (I 26) x1 x2 x3 a.1 a.2.1 a.2.2.1 a.2.2.2.1 a.2.2.2.2.1 a.2.2.2.2.2.1 a.2.2.2.2.2.2.1 a.2.2.2.2.2.2.2.1 a.2.2.2.2.2.2.2.2 (I 70) := by
            rw [X]
            by_cases z : x2 < 0
            · rw [if_pos z]
            · have z1 : ¬ x2.toInt < 0 := fun w => z (i_lt.mpr w)
              rw [if_neg z, if_neg (fun w => by have := i_lt.mp w; omega)]
          rw [X2]
          unfold jnX10_arc_25
          rw [q_elem]
          rfl
        · rw [Y, q_lies3_out F (a := 0) (fun z => h2 ⟨z.1, by have w := z.2; rw [l_i32, es] at w; omega⟩), Option.bind_some, if_pos rfl]
          exact h_arc_no F b0 x1 x2 x3
    · right
      refine ⟨0, 2, 0, rfl, rfl, by decide, by decide, ?_, ?_⟩
      · unfold fnX10_arc
        change (nsG F I).bind _ = _
        rw [hn, Option.bind_some, Sum.elim_inl]
        change (fnX10_needState F a.1 (I 70) x1).bind _ = _
        rw [q_sta_out F a.1 (I 70) (by rw [y3]; exact h1)]
        rfl
      · unfold fnX11_arc
        change (fwG F I).bind _ = _
        rw [hf, Option.bind_some, if_neg (show ¬ (1 : Int32) = 0 from by decide)]
        change (fnX11_isState F b.1 x1).bind _ = _
        rw [q_isSta_out F (by rw [y4]; omega) (by rw [y4]; exact h1), Option.bind_some, if_pos rfl]
        exact h_arc_no F b0 x1 x2 x3
  · right
    refine ⟨2, 1, 2, rfl, rfl, by decide, by decide, ?_, ?_⟩
    · unfold fnX10_arc
      change (nsG F I).bind _ = _
      rw [hn]
      rfl
    · unfold fnX11_arc
      change (fwG F I).bind _ = _
      rw [hf, Option.bind_some, if_pos rfl]
theorem b_arc (F : Nat) (hF : 2100 ≤ F) {Inv : Nat → mj_IT → mj_LT → Prop} (hK : kG F Inv) : pb_arc F Inv := by
  intro j hj I L hI x1 x2 x3
  obtain ⟨hr, hp, h4, hv, hf⟩ := hK.1.2 j I L hj hI
  obtain ⟨hQ, ht, h9, h17⟩ := hK.2.2 j I L hj hI
  obtain ⟨a, b, hl, b0, hd⟩ := qq_arc F hF hp ht (q_few (gQ_go F hF hp h4 ht hv hQ)) _ _ _
  rcases hd with ⟨v, q1, q2⟩ | ⟨k, e, t, o1, o2, o3, o4, q1, q2⟩
  · refine ⟨.inl (v, mj_rows I [(1, I 1), (18, I 18), (19, I 19), (20, I 20), (21, I 21), (22, I 22), (23, I 23), (24, I 24), (25, I 25), (26, I 26), (32, a.1), (33, a.2.1), (34, a.2.2.1), (35, a.2.2.2.1), (36, a.2.2.2.2.1), (37, a.2.2.2.2.2.1), (38, a.2.2.2.2.2.2.1), (39, a.2.2.2.2.2.2.2.1), (40, a.2.2.2.2.2.2.2.2), (70, I 70)], L), v, 0, mj_rows (mj_rows I [(1, I 1), (18, I 18), (19, I 19), (20, I 20), (21, I 21), (22, I 22), (23, I 23), (24, I 24), (25, I 25), (26, I 26), (32, a.1), (33, a.2.1), (34, a.2.2.1), (35, a.2.2.2.1), (36, a.2.2.2.2.1), (37, a.2.2.2.2.2.1), (38, a.2.2.2.2.2.2.1), (39, a.2.2.2.2.2.2.2.1), (40, a.2.2.2.2.2.2.2.2), (70, I 70)]) [(71, b.1), (72, I 72), (73, I 73), (75, I 75), (80, b.2.1), (81, b.2.2.1), (82, b.2.2.2.1), (83, b.2.2.2.2.1), (84, b.2.2.2.2.2.1), (85, b.2.2.2.2.2.2.1), (86, b.2.2.2.2.2.2.2), (87, I 87)], mj_rows (mj_rows (mj_rows I [(1, I 1), (18, I 18), (19, I 19), (20, I 20), (21, I 21), (22, I 22), (23, I 23), (24, I 24), (25, I 25), (26, I 26), (32, a.1), (33, a.2.1), (34, a.2.2.1), (35, a.2.2.2.1), (36, a.2.2.2.2.1), (37, a.2.2.2.2.2.1), (38, a.2.2.2.2.2.2.1), (39, a.2.2.2.2.2.2.2.1), (40, a.2.2.2.2.2.2.2.2), (70, I 70)]) [(71, b.1), (72, I 72), (73, I 73), (75, I 75), (80, b.2.1), (81, b.2.2.1), (82, b.2.2.2.1), (83, b.2.2.2.2.1), (84, b.2.2.2.2.2.1), (85, b.2.2.2.2.2.2.1), (86, b.2.2.2.2.2.2.2), (87, I 87)]) [(71, b.1)], va_up L 98 (vp_updL (L 98) 0 v.toInt64), va_up L 98 (vp_updL (L 98) 0 v.toInt64), ?_, ?_, ?_, ?_, rfl, fun _ => rfl, ?_⟩
    · unfold stX10_arc; rw [q1]; rfl
    · intro q hq; cases hq
    · show (fnX11_arc F (I 71) (I 72) (I 73) (I 75) (I 80) (I 81) (I 82) (I 83) (I 84) (I 85) (I 86) (I 87) x1 x2 x3).map _ = _
      rw [q2]; rfl
    · show some (b.1 0, _, _) = _
      rw [b0]; rfl
    · refine hK.2.1 j I L _ _ hj hI ?_ (frL_up L _) hr
      refine fr_go hQ.1 (fun z => (hQ.2.2.1 z).1) hl (fun x x1 x2 x3 => ?_) rfl rfl (fun k hk => rfl)
      rw [rw_k _ _ x (by refine ⟨fun z => ?_, trivial⟩ <;> (dsimp only at z; first | (exfalso; omega) | (subst z; rfl))), rw_k _ _ x (by refine ⟨fun z => ?_, fun z => ?_, fun z => ?_, fun z => ?_, fun z => ?_, fun z => ?_, fun z => ?_, fun z => ?_, fun z => ?_, fun z => ?_, fun z => ?_, fun z => ?_, trivial⟩ <;> (dsimp only at z; first | (exfalso; omega) | (subst z; rfl))), rw_k _ _ x (by refine ⟨fun z => ?_, fun z => ?_, fun z => ?_, fun z => ?_, fun z => ?_, fun z => ?_, fun z => ?_, fun z => ?_, fun z => ?_, fun z => ?_, fun z => ?_, fun z => ?_, fun z => ?_, fun z => ?_, fun z => ?_, fun z => ?_, fun z => ?_, fun z => ?_, fun z => ?_, fun z => ?_, trivial⟩ <;> (dsimp only at z; first | (exfalso; omega) | (subst z; rfl)))]
  · refine ⟨.inr (k, mj_rows I [(1, I 1), (18, I 18), (19, I 19), (20, I 20), (21, I 21), (22, I 22), (23, I 23), (24, I 24), (25, I 25), (26, I 26), (32, a.1), (33, a.2.1), (34, a.2.2.1), (35, a.2.2.2.1), (36, a.2.2.2.2.1), (37, a.2.2.2.2.2.1), (38, a.2.2.2.2.2.2.1), (39, a.2.2.2.2.2.2.2.1), (40, a.2.2.2.2.2.2.2.2), (70, upd (I 70) t (I 70 t + 1))], L), 0, e, mj_rows (mj_rows I [(1, I 1), (18, I 18), (19, I 19), (20, I 20), (21, I 21), (22, I 22), (23, I 23), (24, I 24), (25, I 25), (26, I 26), (32, a.1), (33, a.2.1), (34, a.2.2.1), (35, a.2.2.2.1), (36, a.2.2.2.2.1), (37, a.2.2.2.2.2.1), (38, a.2.2.2.2.2.2.1), (39, a.2.2.2.2.2.2.2.1), (40, a.2.2.2.2.2.2.2.2), (70, upd (I 70) t (I 70 t + 1))]) [(71, upd b.1 0 e), (72, upd (I 72) t (I 72 t + 1)), (73, I 73), (75, I 75), (80, b.2.1), (81, b.2.2.1), (82, b.2.2.2.1), (83, b.2.2.2.2.1), (84, b.2.2.2.2.2.1), (85, b.2.2.2.2.2.2.1), (86, b.2.2.2.2.2.2.2), (87, I 87)], mj_rows (mj_rows (mj_rows I [(1, I 1), (18, I 18), (19, I 19), (20, I 20), (21, I 21), (22, I 22), (23, I 23), (24, I 24), (25, I 25), (26, I 26), (32, a.1), (33, a.2.1), (34, a.2.2.1), (35, a.2.2.2.1), (36, a.2.2.2.2.1), (37, a.2.2.2.2.2.1), (38, a.2.2.2.2.2.2.1), (39, a.2.2.2.2.2.2.2.1), (40, a.2.2.2.2.2.2.2.2), (70, upd (I 70) t (I 70 t + 1))]) [(71, upd b.1 0 e), (72, upd (I 72) t (I 72 t + 1)), (73, I 73), (75, I 75), (80, b.2.1), (81, b.2.2.1), (82, b.2.2.2.1), (83, b.2.2.2.2.1), (84, b.2.2.2.2.2.1), (85, b.2.2.2.2.2.2.1), (86, b.2.2.2.2.2.2.2), (87, I 87)]) [(71, upd b.1 0 e)], L, L, ?_, ?_, ?_, rfl, ?_, ?_, ?_⟩
    · unfold stX10_arc; rw [q1]; rfl
    · intro q hq; cases hq; exact o1
    · show (fnX11_arc F (I 71) (I 72) (I 73) (I 75) (I 80) (I 81) (I 82) (I 83) (I 84) (I 85) (I 86) (I 87) x1 x2 x3).map _ = _
      rw [q2]; rfl
    · exact o2.symm
    · intro z; exact absurd (o2.symm.trans z) o3
    · refine hK.2.1 j I L _ _ hj hI ?_ (fun _ _ => rfl) (rf_up hr o4)
      refine fr_go hQ.1 (fun z => (hQ.2.2.1 z).1) hl (fun x x1 x2 x3 => ?_) rfl rfl (fun k hk => upd_ne hk)
      rw [rw_k _ _ x (by refine ⟨fun z => ?_, trivial⟩ <;> (dsimp only at z; first | (exfalso; omega) | (subst z; rfl))), rw_k _ _ x (by refine ⟨fun z => ?_, fun z => ?_, fun z => ?_, fun z => ?_, fun z => ?_, fun z => ?_, fun z => ?_, fun z => ?_, fun z => ?_, fun z => ?_, fun z => ?_, fun z => ?_, trivial⟩ <;> (dsimp only at z; first | (exfalso; omega) | (subst z; rfl))), rw_k _ _ x (by refine ⟨fun z => ?_, fun z => ?_, fun z => ?_, fun z => ?_, fun z => ?_, fun z => ?_, fun z => ?_, fun z => ?_, fun z => ?_, fun z => ?_, fun z => ?_, fun z => ?_, fun z => ?_, fun z => ?_, fun z => ?_, fun z => ?_, fun z => ?_, fun z => ?_, fun z => ?_, fun z => ?_, trivial⟩ <;> (dsimp only at z; first | (exfalso; omega) | (subst z; rfl)))]
