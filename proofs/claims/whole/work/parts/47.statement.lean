/-! ===== statement ===== -/
theorem q_stm (F : Nat) {r18 r19 r20 r21 r22 r23 r24 r25 r26 r70 r73 : Nat → Int32} (hP : pK r18 r19 r20 r21 r22 r23 r24 r25 r26 r73) {x1 x2 : Int32} (h1 : 0 ≤ x1.toInt ∧ x1.toInt < (r18 0).toInt) (h2 : 0 ≤ x2.toInt ∧ x2.toInt ≤ 4) : fnX10_statement F r18 r19 r20 r21 r25 r26 r70 x1 x2 = some (.inl (r73 (12 * x1.toNatClampNeg + x2.toNatClampNeg), r70)) := by
  have e0 : (0 : Int32).toInt = 0 := rfl
  have e1 : (1 : Int32).toInt = 1 := rfl
  have e2 : (2 : Int32).toInt = 2 := rfl
  have e3 : (3 : Int32).toInt = 3 := rfl
  have em : (-1 : Int32).toInt = -1 := rfl
  obtain ⟨P0, P1, P2⟩ := hP
  have hk : ((x1.toNatClampNeg : Nat) : Int) < (r18 0).toInt := by rw [i_cl]; omega
  obtain ⟨p1, p2, p3, p4, p5, p6, p7, p8, p9, p10, p11, p12, p13, p14, p15, p16, p17⟩ := P2 _ hk
  have hi : mj_ib x1 40 = true := mj_ib_of (by omega) (by omega)
  unfold fnX10_statement
  rw [q_stm_in F r18 r70 h1, Option.bind_some, Sum.elim_inl, q_num_in F r70 (a := 0) (b := 4) h2, Option.bind_some, Sum.elim_inl, if_pos hi]
  by_cases c0 : x2 = 0
  · subst c0
    rw [if_pos rfl]
    show _ = some (Sum.inl (r73 (12 * x1.toNatClampNeg), r70))
    rw [p1]
  rw [if_neg c0]
  by_cases c1 : x2 = 1
  · subst c1
    rw [if_pos rfl, if_pos hi]
    show _ = some (Sum.inl (r73 (12 * x1.toNatClampNeg + 1), r70))
    by_cases d0 : r19 x1.toNatClampNeg = 0
    · rw [if_pos d0, (p10 (by rw [d0, e0]; omega)).1]
    · rw [if_neg d0]
      by_cases d1 : r19 x1.toNatClampNeg = 1
      · rw [if_pos d1, (p10 (by rw [d1, e1]; omega)).1]
      · have d2 : ¬ (r19 x1.toNatClampNeg).toInt = 0 := fun z => d0 (i_eq.mpr (by rw [z, e0]))
        have d3 : ¬ (r19 x1.toNatClampNeg).toInt = 1 := fun z => d1 (i_eq.mpr (by rw [z, e1]))
        have d4 : r73 (12 * x1.toNatClampNeg + 1) = -1 := i_eq.mpr (by rw [p11 (by omega), em])
        rw [if_neg d1, d4]
  rw [if_neg c1]
  by_cases c2 : x2 = 2
  · subst c2
    rw [if_pos rfl, if_pos hi]
    show _ = some (Sum.inl (r73 (12 * x1.toNatClampNeg + 2), r70))
    by_cases d1 : r19 x1.toNatClampNeg = 1
    · rw [if_pos d1, p12 (Or.inl (by rw [d1, e1]))]
    · rw [if_neg d1]
      by_cases d2 : r19 x1.toNatClampNeg = 2
      · rw [if_pos d2, p12 (Or.inr (by rw [d2, e2]))]
      · have d4 : r73 (12 * x1.toNatClampNeg + 2) = -1 := i_eq.mpr (by
          rw [p15 (fun z => z.elim (fun w => d1 (i_eq.mpr (by rw [w, e1]))) (fun w => d2 (i_eq.mpr (by rw [w, e2])))), em])
        rw [if_neg d2, d4]
  rw [if_neg c2]
  by_cases c3 : x2 = 3
  · subst c3
    rw [if_pos rfl, if_pos hi]
    show _ = some (Sum.inl (r73 (12 * x1.toNatClampNeg + 3), r70))
    rw [p4]
  · rw [if_neg c3, if_pos hi]
    have d0 : ¬ x2.toInt = 0 := fun z => c0 (i_eq.mpr (by rw [z, e0]))
    have d1 : ¬ x2.toInt = 1 := fun z => c1 (i_eq.mpr (by rw [z, e1]))
    have d2 : ¬ x2.toInt = 2 := fun z => c2 (i_eq.mpr (by rw [z, e2]))
    have d3 : ¬ x2.toInt = 3 := fun z => c3 (i_eq.mpr (by rw [z, e3]))
    have d4 : x2.toNatClampNeg = 4 := by rw [i_cl]; omega
    rw [d4, p7]
theorem b_statement (F : Nat) {Inv : Nat → mj_IT → mj_LT → Prop} (hK : kQ Inv) : pb_statement F Inv := by
  intro j hj I L hI x1 x2
  obtain ⟨hr, hp, h4, hv, hf⟩ := hK.2 j I L hj hI
  have hC : 0 ≤ ((upd (I 71) 0 0) 4).toInt ∧ ((upd (I 71) 0 0) 4).toInt ≤ 40 := by rw [upd_ne (by decide), h4]; exact ⟨hp.1, hp.2.1⟩
  have hCC := hp.2.1
  by_cases h : 0 ≤ x1.toInt ∧ x1.toInt < (I 18 0).toInt
  · have hS : fnX11_isStatement F (upd (I 71) 0 0) x1 = some 1 := q_isStm_in F hC (by rw [upd_ne (by decide), h4]; exact h)
    by_cases h2 : 0 ≤ x2.toInt ∧ x2.toInt ≤ 4
    · have q1 := q_stm F (r70 := I 70) hp h h2
      have q2 : fnX11_statement F (I 71) (I 72) (I 73) x1 x2 = some (I 73 (12 * x1.toNatClampNeg + x2.toNatClampNeg), upd (I 71) 0 0, I 72) := by
        unfold fnX11_statement
        rw [hS, Option.bind_some, q_fine F upd_at, Option.bind_some, if_neg (show ¬ (1 : Int32) = 0 from by decide), q_lies3_in F (a := 0) (b := 4) h2, Option.bind_some, q_fine F upd_at, Option.bind_some, if_neg (show ¬ (1 : Int32) = 0 from by decide), g_of F (I 73) x1.toNatClampNeg x2.toNatClampNeg (by rw [i_cl]; omega) (by rw [i_cl]; omega) (by rw [i_cl, i_cl]; omega)]
        rfl
      generalize I 73 (12 * x1.toNatClampNeg + x2.toNatClampNeg) = v at q1 q2
      refine ⟨.inl (v, mj_rows I [(18, I 18), (19, I 19), (20, I 20), (21, I 21), (25, I 25), (26, I 26), (70, I 70)], L), v, 0, mj_rows (mj_rows I [(18, I 18), (19, I 19), (20, I 20), (21, I 21), (25, I 25), (26, I 26), (70, I 70)]) [(71, upd (I 71) 0 0), (72, I 72), (73, I 73)], mj_rows (mj_rows (mj_rows I [(18, I 18), (19, I 19), (20, I 20), (21, I 21), (25, I 25), (26, I 26), (70, I 70)]) [(71, upd (I 71) 0 0), (72, I 72), (73, I 73)]) [(71, upd (I 71) 0 0)], va_up L 98 (vp_updL (L 98) 0 v.toInt64), va_up L 98 (vp_updL (L 98) 0 v.toInt64), ?_, ?_, ?_, rfl, rfl, ?_, ?_⟩
      · unfold stX10_statement; rw [q1]; rfl
      · intro q hq; cases hq
      · show (fnX11_statement F (I 71) (I 72) (I 73) x1 x2).map _ = _
        rw [q2]; rfl
      · intro _; rfl
      · refine hK.1 j I L _ _ hj hI ⟨fun a a0 a1 a2 => ?_, fun k hk => ?_⟩ (frL_up L _) hr
        · rw [rw_ne _ _ a (by simp +contextual [a1]), rw_ne _ _ a (by simp +contextual [a1, a2]; try (intro z; rfl)), rw_ne _ _ a (by simp +contextual [a0])]
        · show upd (I 71) 0 0 k = I 71 k
          rw [upd_ne hk]
    · have q1 : fnX10_statement F (I 18) (I 19) (I 20) (I 21) (I 25) (I 26) (I 70) x1 x2 = some (.inr (1, upd (I 70) 1 (I 70 1 + 1))) := by
        unfold fnX10_statement
        rw [q_stm_in F (I 18) (I 70) h, Option.bind_some, Sum.elim_inl, q_num_out F (I 70) (a := 0) (b := 4) h2]
        rfl
      have q2 : fnX11_statement F (I 71) (I 72) (I 73) x1 x2 = some (0, upd (upd (I 71) 0 0) 0 2, upd (I 72) 1 (I 72 1 + 1)) := by
        unfold fnX11_statement
        rw [hS, Option.bind_some, q_fine F upd_at, Option.bind_some, if_neg (show ¬ (1 : Int32) = 0 from by decide), q_lies3_out F (a := 0) (b := 4) h2, Option.bind_some, q_fine0 F upd_at (show ¬ (2 : Int32) = 0 from by decide) (by decide), Option.bind_some, if_pos rfl]
        rfl
      refine ⟨.inr (1, mj_rows I [(18, I 18), (19, I 19), (20, I 20), (21, I 21), (25, I 25), (26, I 26), (70, upd (I 70) 1 (I 70 1 + 1))], L), 0, 2, mj_rows (mj_rows I [(18, I 18), (19, I 19), (20, I 20), (21, I 21), (25, I 25), (26, I 26), (70, upd (I 70) 1 (I 70 1 + 1))]) [(71, upd (upd (I 71) 0 0) 0 2), (72, upd (I 72) 1 (I 72 1 + 1)), (73, I 73)], mj_rows (mj_rows (mj_rows I [(18, I 18), (19, I 19), (20, I 20), (21, I 21), (25, I 25), (26, I 26), (70, upd (I 70) 1 (I 70 1 + 1))]) [(71, upd (upd (I 71) 0 0) 0 2), (72, upd (I 72) 1 (I 72 1 + 1)), (73, I 73)]) [(71, upd (upd (I 71) 0 0) 0 2)], L, L, ?_, ?_, ?_, rfl, rfl, ?_, ?_⟩
      · unfold stX10_statement; rw [q1]; rfl
      · intro q hq; cases hq; rfl
      · show (fnX11_statement F (I 71) (I 72) (I 73) x1 x2).map _ = _
        rw [q2]; rfl
      · intro z; exact absurd z (show ¬ (2 : Int32) = 0 from by decide)
      · refine hK.1 j I L _ _ hj hI ⟨fun a a0 a1 a2 => ?_, fun k hk => ?_⟩ (fun _ _ => rfl) (rf_up hr (by decide))
        · rw [rw_ne _ _ a (by simp +contextual [a1]), rw_ne _ _ a (by simp +contextual [a1, a2]; try (intro z; rfl)), rw_ne _ _ a (by simp +contextual [a0])]
        · show upd (upd (I 71) 0 0) 0 2 k = I 71 k
          rw [upd_ne hk, upd_ne hk]
  · have q1 : fnX10_statement F (I 18) (I 19) (I 20) (I 21) (I 25) (I 26) (I 70) x1 x2 = some (.inr (0, upd (I 70) 0 (I 70 0 + 1))) := by
      unfold fnX10_statement
      rw [q_stm_out F (I 18) (I 70) h]
      rfl
    have q2 : fnX11_statement F (I 71) (I 72) (I 73) x1 x2 = some (0, upd (upd (I 71) 0 0) 0 1, upd (I 72) 0 (I 72 0 + 1)) := by
      unfold fnX11_statement
      rw [q_isStm_out F hC (by rw [upd_ne (by decide), h4]; exact h), Option.bind_some, q_fine0 F upd_at (show ¬ (1 : Int32) = 0 from by decide) (by decide), Option.bind_some, if_pos rfl]
      rfl
    refine ⟨.inr (0, mj_rows I [(18, I 18), (19, I 19), (20, I 20), (21, I 21), (25, I 25), (26, I 26), (70, upd (I 70) 0 (I 70 0 + 1))], L), 0, 1, mj_rows (mj_rows I [(18, I 18), (19, I 19), (20, I 20), (21, I 21), (25, I 25), (26, I 26), (70, upd (I 70) 0 (I 70 0 + 1))]) [(71, upd (upd (I 71) 0 0) 0 1), (72, upd (I 72) 0 (I 72 0 + 1)), (73, I 73)], mj_rows (mj_rows (mj_rows I [(18, I 18), (19, I 19), (20, I 20), (21, I 21), (25, I 25), (26, I 26), (70, upd (I 70) 0 (I 70 0 + 1))]) [(71, upd (upd (I 71) 0 0) 0 1), (72, upd (I 72) 0 (I 72 0 + 1)), (73, I 73)]) [(71, upd (upd (I 71) 0 0) 0 1)], L, L, ?_, ?_, ?_, rfl, rfl, ?_, ?_⟩
    · unfold stX10_statement; rw [q1]; rfl
    · intro q hq; cases hq; rfl
    · show (fnX11_statement F (I 71) (I 72) (I 73) x1 x2).map _ = _
      rw [q2]; rfl
    · intro z; exact absurd z (show ¬ (1 : Int32) = 0 from by decide)
    · refine hK.1 j I L _ _ hj hI ⟨fun a a0 a1 a2 => ?_, fun k hk => ?_⟩ (fun _ _ => rfl) (rf_up hr (by decide))
      · rw [rw_ne _ _ a (by simp +contextual [a1]), rw_ne _ _ a (by simp +contextual [a1, a2]; try (intro z; rfl)), rw_ne _ _ a (by simp +contextual [a0])]
      · show upd (upd (I 71) 0 0) 0 1 k = I 71 k
        rw [upd_ne hk, upd_ne hk]
