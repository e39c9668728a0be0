/-! ===== chance ===== -/
theorem b_chance (F : Nat) (hF : 100 ≤ F) {Inv : Nat → mj_IT → mj_LT → Prop} (hK : kC Inv) : pb_chance F Inv := by
  intro j hj I L hI x1 x2
  have e0 : (0 : Int32).toInt = 0 := rfl
  have e2 : (2 : Int32).toInt = 2 := rfl
  have e6 : (6 : Int32).toInt = 6 := rfl
  have e12 : (12 : Int32).toInt = 12 := rfl
  obtain ⟨hr, hp, h4, hv, hf⟩ := hK.1.2 j I L hj hI
  obtain ⟨N, hN⟩ := hK.2.1 j I L hj hI
  have hC : 0 ≤ ((upd (I 71) 0 0) 4).toInt ∧ ((upd (I 71) 0 0) 4).toInt ≤ 40 := by rw [upd_ne (by decide), h4]; exact ⟨hp.1, hp.2.1⟩
  have hCC := hp.2.1
  by_cases h : 0 ≤ x1.toInt ∧ x1.toInt < (I 18 0).toInt
  · have hS : fnX11_isStatement F (upd (I 71) 0 0) x1 = some 1 := q_isStm_in F hC (by rw [upd_ne (by decide), h4]; exact h)
    have hi : mj_ib x1 40 = true := mj_ib_of (by omega) (by omega)
    obtain ⟨s, hs⟩ : ∃ s, x1.toNatClampNeg = s := ⟨_, rfl⟩
    have hsx : x1.toInt = (s : Nat) := by rw [← hs, i_cl]; omega
    have hsn : (s : Int) < (I 18 0).toInt := by omega
    have hk := hp.2.2 s hsn
    have o0 : fnX11_of F (I 73) x1 0 = some (I 19 s) := by
      rw [g_of F (I 73) s 0 hsx e0 (by omega)]
      show some (I 73 (12 * s)) = _
      rw [hk.1]
    by_cases h2 : (0 ≤ x2.toInt ∧ x2.toInt ≤ 60) ∧ I 19 s = 2
    · obtain ⟨h2, hkd⟩ := h2
      have k1 : (I 19 s).toInt = 2 := by rw [hkd, e2]
      have p12 := hk.2.2.2.2.2.2.2.2.2.2.2.1
      have p14 := hk.2.2.2.2.2.2.2.2.2.2.2.2.2.1
      have o2 : fnX11_of F (I 73) x1 2 = some (I 21 s) := by
        rw [g_of F (I 73) s 2 hsx e2 (by omega), p12 (Or.inr k1)]
      have w6 : (6 + x1).toInt = 6 + (s : Int) := by rw [i_add (by omega) (by omega), hsx, e6]
      have x12 : (12 * x1).toInt = 12 * (s : Int) := by rw [i_mul (by rw [e12]; omega) (by rw [e12]; omega), hsx, e12]
      have xi : (12 * x1 + 2).toInt = ((12 * s + 2 : Nat) : Int) := by rw [i_add (by omega) (by omega), x12, e2]; omega
      have ci : (12 * x1 + 2).toNatClampNeg = 12 * s + 2 := by rw [i_cl, xi]; omega
      have bi : mj_ib (12 * x1 + 2) 480 = true := mj_ib_of (by omega) (by omega)
      have hN0 : chQ (chP (I 18) (I 19)) N (I 29) (I 30) (I 31) (upd (I 71) 0 0) (I 78) (I 79) := ⟨hN.1, hN.2.1, (upd_ne (by decide)).trans hN.2.2.1, hN.2.2.2⟩
      obtain ⟨a, b, a1, b1, p1, ⟨N', p2⟩, p3, p4, p5, p6⟩ := s2_keep F hF (x1 := 6 + x1) (x2 := I 21 s) hN0 (Or.inr ⟨s, w6, hsn, hkd, p14 k1⟩)
      have q1 : fnX10_chance F (I 18) (I 19) (I 21) (I 29) (I 30) (I 31) (I 32) (I 70) x1 x2 = some (.inl (I 21 s, upd (I 21) s x2, a.1, a.2.1, a.2.2, upd (I 32) 1 0, I 70)) := by
        unfold fnX10_chance
        rw [q_stm_in F (I 18) (I 70) h, Option.bind_some, Sum.elim_inl, q_num_in F (I 70) (a := 0) (b := 60) h2, Option.bind_some, Sum.elim_inl, if_pos hi, hs, if_pos hkd]
        unfold jnX10_chance_30
        rw [if_pos hi, hs, a1, Option.bind_some, if_pos hi]
        rfl
      have q2 : fnX11_chance F (I 71) (I 72) (I 73) (I 78) (I 79) x1 x2 = some (I 21 s, b.2.1, I 72, upd (I 73) (12 * s + 2) x2, b.2.2.1, b.2.2.2) := by
        unfold fnX11_chance
        rw [hS, Option.bind_some, q_fine F upd_at, Option.bind_some, if_neg (show ¬ (1 : Int32) = 0 from by decide), o0, Option.bind_some, if_pos hkd, q_lies3_in F (a := 0) (b := 60) h2, Option.bind_some, if_neg (show ¬ (1 : Int32) = 0 from by decide)]
        unfold jnX11_chance_47
        rw [q_fine F upd_at, Option.bind_some, if_neg (show ¬ (1 : Int32) = 0 from by decide), o2, Option.bind_some, if_pos bi, ci]
        show (fnX11_changes F (upd (I 71) 0 0) (I 78) (I 79) (6 + x1) (I 21 s)).bind _ = _
        rw [b1, Option.bind_some, p1]
      have b0 : b.2.1 0 = 0 := (p6 0 (by decide) (by decide) (by decide)).trans upd_at
      generalize I 21 s = v at q1 q2
      refine ⟨.inl (v, mj_rows I [(18, I 18), (19, I 19), (21, upd (I 21) s x2), (29, a.1), (30, a.2.1), (31, a.2.2), (32, upd (I 32) 1 0), (70, I 70)], L), v, 0, mj_rows (mj_rows I [(18, I 18), (19, I 19), (21, upd (I 21) s x2), (29, a.1), (30, a.2.1), (31, a.2.2), (32, upd (I 32) 1 0), (70, I 70)]) [(71, b.2.1), (72, I 72), (73, upd (I 73) (12 * s + 2) x2), (78, b.2.2.1), (79, b.2.2.2)], mj_rows (mj_rows (mj_rows I [(18, I 18), (19, I 19), (21, upd (I 21) s x2), (29, a.1), (30, a.2.1), (31, a.2.2), (32, upd (I 32) 1 0), (70, I 70)]) [(71, b.2.1), (72, I 72), (73, upd (I 73) (12 * s + 2) x2), (78, b.2.2.1), (79, b.2.2.2)]) [(71, b.2.1)], va_up L 98 (vp_updL (L 98) 0 v.toInt64), va_up L 98 (vp_updL (L 98) 0 v.toInt64), ?_, ?_, ?_, ?_, rfl, fun _ => rfl, ?_⟩
      · unfold stX10_chance; rw [q1]; rfl
      · intro q hq; cases hq
      · show (fnX11_chance F (I 71) (I 72) (I 73) (I 78) (I 79) x1 x2).map _ = _
        rw [q2]; rfl
      · show some (b.2.1 0, _, _) = _
        rw [b0]; rfl
      · refine hK.2.2 j I L _ _ hj hI ⟨fun x y1 y2 y3 y4 y5 y6 y7 => ?_, fun k hk => rfl, fun k hk => upd_ne hk, (show upd (I 32) 1 0 1 = 0 from upd_at), p4, p5, fun k k0 k1 k2 k3 => (p6 k k1 k2 k3).trans (upd_ne k0), pK_up hp hkd h2, hv, N', p2⟩ (frL_up L _) hr
        rw [rw_k _ _ x (by refine ⟨fun z => ?_, trivial⟩ <;> (dsimp only at z; first | (exfalso; omega) | (subst z; rfl))), rw_k _ _ x (by refine ⟨fun z => ?_, fun z => ?_, fun z => ?_, fun z => ?_, fun z => ?_, trivial⟩ <;> (dsimp only at z; first | (exfalso; omega) | (subst z; rfl))), rw_k _ _ x (by refine ⟨fun z => ?_, fun z => ?_, fun z => ?_, fun z => ?_, fun z => ?_, fun z => ?_, fun z => ?_, fun z => ?_, trivial⟩ <;> (dsimp only at z; first | (exfalso; omega) | (subst z; rfl)))]
    · have q1 : fnX10_chance F (I 18) (I 19) (I 21) (I 29) (I 30) (I 31) (I 32) (I 70) x1 x2 = some (.inr (1, I 21, I 29, I 30, I 31, I 32, upd (I 70) 1 (I 70 1 + 1))) := by
        unfold fnX10_chance
        rw [q_stm_in F (I 18) (I 70) h, Option.bind_some, Sum.elim_inl]
        by_cases h3 : 0 ≤ x2.toInt ∧ x2.toInt ≤ 60
        · have hkd : ¬ I 19 s = 2 := fun z => h2 ⟨h3, z⟩
          rw [q_num_in F (I 70) (a := 0) (b := 60) h3, Option.bind_some, Sum.elim_inl, if_pos hi, hs, if_neg hkd, q_arg]
          rfl
        · rw [q_num_out F (I 70) (a := 0) (b := 60) h3]
          rfl
      have q2 : fnX11_chance F (I 71) (I 72) (I 73) (I 78) (I 79) x1 x2 = some (0, upd (upd (I 71) 0 0) 0 2, upd (I 72) 1 (I 72 1 + 1), I 73, I 78, I 79) := by
        have R0 : jnX11_chance_46 F x1 x2 (upd (I 71) 0 0) (I 72) (I 73) (I 78) (I 79) = some (0, upd (upd (I 71) 0 0) 0 2, upd (I 72) 1 (I 72 1 + 1), I 73, I 78, I 79) := by
          unfold jnX11_chance_46 jnX11_chance_47
          rw [q_fine0 F upd_at (show ¬ (2 : Int32) = 0 from by decide) (by decide), Option.bind_some, if_pos rfl]
          rfl
        unfold fnX11_chance
        rw [hS, Option.bind_some, q_fine F upd_at, Option.bind_some, if_neg (show ¬ (1 : Int32) = 0 from by decide), o0, Option.bind_some]
        by_cases hkd : I 19 s = 2
        · have h3 : ¬ (0 ≤ x2.toInt ∧ x2.toInt ≤ 60) := fun z => h2 ⟨z, hkd⟩
          rw [if_pos hkd, q_lies3_out F (a := 0) (b := 60) h3, Option.bind_some, if_pos rfl]
          exact R0
        · rw [if_neg hkd]
          exact R0
      refine ⟨.inr (1, mj_rows I [(18, I 18), (19, I 19), (21, I 21), (29, I 29), (30, I 30), (31, I 31), (32, I 32), (70, upd (I 70) 1 (I 70 1 + 1))], L), 0, 2, mj_rows (mj_rows I [(18, I 18), (19, I 19), (21, I 21), (29, I 29), (30, I 30), (31, I 31), (32, I 32), (70, upd (I 70) 1 (I 70 1 + 1))]) [(71, upd (upd (I 71) 0 0) 0 2), (72, upd (I 72) 1 (I 72 1 + 1)), (73, I 73), (78, I 78), (79, I 79)], mj_rows (mj_rows (mj_rows I [(18, I 18), (19, I 19), (21, I 21), (29, I 29), (30, I 30), (31, I 31), (32, I 32), (70, upd (I 70) 1 (I 70 1 + 1))]) [(71, upd (upd (I 71) 0 0) 0 2), (72, upd (I 72) 1 (I 72 1 + 1)), (73, I 73), (78, I 78), (79, I 79)]) [(71, upd (upd (I 71) 0 0) 0 2)], L, L, ?_, ?_, ?_, rfl, rfl, ?_, ?_⟩
      · unfold stX10_chance; rw [q1]; rfl
      · intro q hq; cases hq; rfl
      · show (fnX11_chance F (I 71) (I 72) (I 73) (I 78) (I 79) x1 x2).map _ = _
        rw [q2]; rfl
      · intro z; exact absurd z (show ¬ (2 : Int32) = 0 from by decide)
      · refine hK.1.1 j I L _ _ hj hI ⟨fun x y0 y1 y2 => ?_, fun k hk => ?_⟩ (fun _ _ => rfl) (rf_up hr (by decide))
        · rw [rw_k _ _ x (by refine ⟨fun z => ?_, trivial⟩ <;> (dsimp only at z; first | (exfalso; omega) | (subst z; rfl))), rw_k _ _ x (by refine ⟨fun z => ?_, fun z => ?_, fun z => ?_, fun z => ?_, fun z => ?_, trivial⟩ <;> (dsimp only at z; first | (exfalso; omega) | (subst z; rfl))), rw_k _ _ x (by refine ⟨fun z => ?_, fun z => ?_, fun z => ?_, fun z => ?_, fun z => ?_, fun z => ?_, fun z => ?_, fun z => ?_, trivial⟩ <;> (dsimp only at z; first | (exfalso; omega) | (subst z; rfl)))]
        · show upd (upd (I 71) 0 0) 0 2 k = I 71 k
          rw [upd_ne hk, upd_ne hk]
  · have q1 : fnX10_chance F (I 18) (I 19) (I 21) (I 29) (I 30) (I 31) (I 32) (I 70) x1 x2 = some (.inr (0, I 21, I 29, I 30, I 31, I 32, upd (I 70) 0 (I 70 0 + 1))) := by
      unfold fnX10_chance
      rw [q_stm_out F (I 18) (I 70) h]
      rfl
    have q2 : fnX11_chance F (I 71) (I 72) (I 73) (I 78) (I 79) x1 x2 = some (0, upd (upd (I 71) 0 0) 0 1, upd (I 72) 0 (I 72 0 + 1), I 73, I 78, I 79) := by
      unfold fnX11_chance
      rw [q_isStm_out F hC (by rw [upd_ne (by decide), h4]; exact h), Option.bind_some, q_fine0 F upd_at (show ¬ (1 : Int32) = 0 from by decide) (by decide), Option.bind_some, if_pos rfl]
      rfl
    refine ⟨.inr (0, mj_rows I [(18, I 18), (19, I 19), (21, I 21), (29, I 29), (30, I 30), (31, I 31), (32, I 32), (70, upd (I 70) 0 (I 70 0 + 1))], L), 0, 1, mj_rows (mj_rows I [(18, I 18), (19, I 19), (21, I 21), (29, I 29), (30, I 30), (31, I 31), (32, I 32), (70, upd (I 70) 0 (I 70 0 + 1))]) [(71, upd (upd (I 71) 0 0) 0 1), (72, upd (I 72) 0 (I 72 0 + 1)), (73, I 73), (78, I 78), (79, I 79)], mj_rows (mj_rows (mj_rows I [(18, I 18), (19, I 19), (21, I 21), (29, I 29), (30, I 30), (31, I 31), (32, I 32), (70, upd (I 70) 0 (I 70 0 + 1))]) [(71, upd (upd (I 71) 0 0) 0 1), (72, upd (I 72) 0 (I 72 0 + 1)), (73, I 73), (78, I 78), (79, I 79)]) [(71, upd (upd (I 71) 0 0) 0 1)], L, L, ?_, ?_, ?_, rfl, rfl, ?_, ?_⟩
    · unfold stX10_chance; rw [q1]; rfl
    · intro q hq; cases hq; rfl
    · show (fnX11_chance F (I 71) (I 72) (I 73) (I 78) (I 79) x1 x2).map _ = _
      rw [q2]; rfl
    · intro z; exact absurd z (show ¬ (1 : Int32) = 0 from by decide)
    · refine hK.1.1 j I L _ _ hj hI ⟨fun x y0 y1 y2 => ?_, fun k hk => ?_⟩ (fun _ _ => rfl) (rf_up hr (by decide))
      · rw [rw_k _ _ x (by refine ⟨fun z => ?_, trivial⟩ <;> (dsimp only at z; first | (exfalso; omega) | (subst z; rfl))), rw_k _ _ x (by refine ⟨fun z => ?_, fun z => ?_, fun z => ?_, fun z => ?_, fun z => ?_, trivial⟩ <;> (dsimp only at z; first | (exfalso; omega) | (subst z; rfl))), rw_k _ _ x (by refine ⟨fun z => ?_, fun z => ?_, fun z => ?_, fun z => ?_, fun z => ?_, fun z => ?_, fun z => ?_, fun z => ?_, trivial⟩ <;> (dsimp only at z; first | (exfalso; omega) | (subst z; rfl)))]
      · show upd (upd (I 71) 0 0) 0 1 k = I 71 k
        rw [upd_ne hk, upd_ne hk]
