/-! ===== undo ===== -/
theorem b_undo (F : Nat) {Inv : Nat → mj_IT → mj_LT → Prop} (hK : kC Inv) : pb_undo F Inv := by
  intro j hj I L hI
  have e0 : (0 : Int32).toInt = 0 := rfl
  have e1 : (1 : Int32).toInt = 1 := rfl
  have e2 : (2 : Int32).toInt = 2 := rfl
  have e6 : (6 : Int32).toInt = 6 := rfl
  have e12 : (12 : Int32).toInt = 12 := rfl
  have e40 : (40 : Int32).toInt = 40 := rfl
  obtain ⟨hr, hp, h4, hv, hf⟩ := hK.1.2 j I L hj hI
  obtain ⟨N, n1, n2, n3, n4⟩ := hK.2.1 j I L hj hI
  by_cases z : I 29 0 = 0
  · have q1 : fnX10_undo F (I 1) (I 21) (I 29) (I 30) (I 31) (I 32) = some (-1, I 1, I 21, I 29, I 32) := by
      unfold fnX10_undo
      rw [if_pos z]
    have q2 : fnX11_undo F (I 71) (I 73) (I 75) (I 78) (I 79) = some (-1, upd (I 71) 0 0, I 73, I 75) := by
      unfold fnX11_undo
      rw [if_pos (n3.trans z)]
    refine ⟨-1, mj_rows I [(1, I 1), (21, I 21), (29, I 29), (30, I 30), (31, I 31), (32, I 32)], mj_rows (mj_rows I [(1, I 1), (21, I 21), (29, I 29), (30, I 30), (31, I 31), (32, I 32)]) [(71, upd (I 71) 0 0), (73, I 73), (75, I 75), (78, I 78), (79, I 79)], L, L, ?_, ?_, ?_⟩
    · unfold stX10_undo; rw [q1]; rfl
    · show (fnX11_undo F (I 71) (I 73) (I 75) (I 78) (I 79)).map _ = _
      rw [q2]; rfl
    · refine hK.1.1 j I L _ _ hj hI ⟨fun x y0 y1 y2 => ?_, fun k hk => upd_ne hk⟩ (fun _ _ => rfl) hr
      rw [rw_k _ _ x (by refine ⟨fun z => ?_, fun z => ?_, fun z => ?_, fun z => ?_, fun z => ?_, trivial⟩ <;> (dsimp only at z; first | (exfalso; omega) | (subst z; rfl))), rw_k _ _ x (by refine ⟨fun z => ?_, fun z => ?_, fun z => ?_, fun z => ?_, fun z => ?_, fun z => ?_, trivial⟩ <;> (dsimp only at z; first | (exfalso; omega) | (subst z; rfl)))]
  · have hN : 1 ≤ N := by
      have : ¬ N = 0 := fun w => z (i_eq.mpr (by rw [n2, w]; rfl))
      omega
    have z2 : ¬ I 71 17 = 0 := fun w => z (n3.symm.trans w)
    have m1 : (I 29 0 - 1).toInt = ((N - 1 : Nat) : Int) := by rw [i_sub (by omega) (by omega), n2, e1]; omega
    have m2 : (I 29 0 - 1).toNatClampNeg = N - 1 := by rw [i_cl, m1]; rfl
    have m3 : I 71 17 - 1 = I 29 0 - 1 := by rw [n3]
    have b1 : mj_ib (I 29 0 - 1) 12 = true := mj_ib_of (by omega) (by omega)
    have b2 : mj_ib (I 71 17 - 1) 13 = true := by rw [m3]; exact mj_ib_of (by omega) (by omega)
    have g0 : ¬ I 29 0 ≤ 0 := fun w => by have := i_le.mp w; omega
    obtain ⟨t1, t2, t3⟩ := n4 (N - 1) (by omega)
    have lw : fnX0_latestWhere F (I 29) (I 30) = some (I 30 (N - 1)) := by
      unfold fnX0_latestWhere
      rw [if_neg g0, if_pos b1, m2]
    have ls : fnX0_latestWas F (I 29) (I 31) = some (I 31 (N - 1)) := by
      unfold fnX0_latestWas
      rw [if_neg g0, if_pos b1, m2]
    have ld : fnX0_drop F (I 29) = some (upd (I 29) 0 (I 29 0 - 1)) := by
      unfold fnX0_drop
      rw [if_neg g0]
    have m5 : (I 71 17 - 1).toNatClampNeg = N - 1 := by rw [m3]; exact m2
    have hch : ∀ P : Int32 → Int32 → Prop, (∀ k, k < N → P (I 30 k) (I 31 k)) → chQ P (N - 1) (upd (I 29) 0 (I 29 0 - 1)) (I 30) (I 31) (upd (upd (upd (upd (I 71) 0 0) 17 (I 71 17 - 1)) 20 0) 22 0) (I 78) (I 79) := by
      intro P hP
      refine ⟨by omega, by rw [upd_at]; exact m1, ?_, fun k hk => ⟨(n4 k (by omega)).1, (n4 k (by omega)).2.1, hP k (by omega)⟩⟩
      rw [upd_ne (by decide), upd_ne (by decide), upd_at, upd_at, m3]
    obtain ⟨w, hw⟩ : ∃ w, I 30 (N - 1) = w := ⟨_, rfl⟩
    obtain ⟨s, hs⟩ : ∃ s, I 31 (N - 1) = s := ⟨_, rfl⟩
    rw [hw] at t1 t3 lw
    rw [hs] at t2 t3 ls
    have f20 : (upd (upd (upd (upd (I 71) 0 0) 17 (I 71 17 - 1)) 20 0) 22 0) 20 = 0 := by rw [upd_ne (by decide), upd_at]
    have f22 : (upd (upd (upd (upd (I 71) 0 0) 17 (I 71 17 - 1)) 20 0) 22 0) 22 = 0 := by rw [upd_at]
    have f17 : (upd (upd (upd (upd (I 71) 0 0) 17 (I 71 17 - 1)) 20 0) 22 0) 17 = I 29 0 - 1 := by rw [upd_ne (by decide), upd_ne (by decide), upd_at, m3]
    have u0 : upd (I 29) 0 (I 29 0 - 1) 0 = I 29 0 - 1 := upd_at
    rcases t3 with ⟨v1, v2⟩ | ⟨k, v1, v2, v3, v4⟩
    · have c6 : ¬ (6 : Int32) ≤ w := fun y => by have := i_le.mp y; have := v1.2; omega
      have hc : w.toNatClampNeg < 6 := by rw [i_cl]; have := v1.1; have := v1.2; omega
      have bw : mj_ib w 6 = true := mj_ib_of (by have := v1.1; omega) (by have := v1.2; omega)
      have q1 : fnX10_undo F (I 1) (I 21) (I 29) (I 30) (I 31) (I 32) = some (I 29 0 - 1, upd (I 1) 3 (pt (I 1 3) w.toNatClampNeg s), I 21, upd (I 29) 0 (I 29 0 - 1), upd (I 32) 1 0) := by
        unfold fnX10_undo
        rw [if_neg z, lw, Option.bind_some, ls, Option.bind_some, ld, Option.bind_some, if_neg c6, g_put F (I 1 3) s v1, Option.bind_some]
        show some (upd (I 29) 0 (I 29 0 - 1) 0, _) = _
        rw [u0]
      have q2 : fnX11_undo F (I 71) (I 73) (I 75) (I 78) (I 79) = some (I 29 0 - 1, upd (upd (upd (upd (I 71) 0 0) 17 (I 71 17 - 1)) 20 0) 22 0, I 73, upd (I 75) w.toNatClampNeg s) := by
        unfold fnX11_undo
        rw [if_neg z2, if_pos b2, m5, t1, if_neg c6, if_pos b2, if_pos bw, t2]
        show some ((upd (upd (upd (upd (I 71) 0 0) 17 (I 71 17 - 1)) 20 0) 22 0) 17, _) = _
        rw [f17]
      refine ⟨I 29 0 - 1, mj_rows I [(1, upd (I 1) 3 (pt (I 1 3) w.toNatClampNeg s)), (21, I 21), (29, upd (I 29) 0 (I 29 0 - 1)), (30, I 30), (31, I 31), (32, upd (I 32) 1 0)], mj_rows (mj_rows I [(1, upd (I 1) 3 (pt (I 1 3) w.toNatClampNeg s)), (21, I 21), (29, upd (I 29) 0 (I 29 0 - 1)), (30, I 30), (31, I 31), (32, upd (I 32) 1 0)]) [(71, upd (upd (upd (upd (I 71) 0 0) 17 (I 71 17 - 1)) 20 0) 22 0), (73, I 73), (75, upd (I 75) w.toNatClampNeg s), (78, I 78), (79, I 79)], L, L, ?_, ?_, ?_⟩
      · unfold stX10_undo; rw [q1]; rfl
      · show (fnX11_undo F (I 71) (I 73) (I 75) (I 78) (I 79)).map _ = _
        rw [q2]; rfl
      · refine hK.2.2 j I L _ _ hj hI ⟨fun x y1 y2 y3 y4 y5 y6 y7 => ?_, fun k hk => upd_ne hk, fun k hk => upd_ne hk, (show upd (I 32) 1 0 1 = 0 from upd_at), f20, f22, fun k k0 k1 k2 k3 => (show upd (upd (upd (upd (I 71) 0 0) 17 (I 71 17 - 1)) 20 0) 22 0 k = I 71 k by rw [upd_ne k3, upd_ne k2, upd_ne k1, upd_ne k0]), hp, ?_, N - 1, hch _ (fun k hk => (n4 k hk).2.2)⟩ (fun _ _ => rfl) hr
        · rw [rw_k _ _ x (by refine ⟨fun z => ?_, fun z => ?_, fun z => ?_, fun z => ?_, fun z => ?_, trivial⟩ <;> (dsimp only at z; first | (exfalso; omega) | (subst z; rfl))), rw_k _ _ x (by refine ⟨fun z => ?_, fun z => ?_, fun z => ?_, fun z => ?_, fun z => ?_, fun z => ?_, trivial⟩ <;> (dsimp only at z; first | (exfalso; omega) | (subst z; rfl)))]
        · show vQ (upd (I 1) 3 (pt (I 1 3) w.toNatClampNeg s) 3) (upd (I 75) w.toNatClampNeg s)
          rw [upd_at]
          exact vQ_p hv hc v2
    · have hC := hp.2.1
      have c6 : (6 : Int32) ≤ w := i_le.mpr (by omega)
      have w6 : (w - 6).toInt = (k : Nat) := by rw [i_sub (by omega) (by omega), v1, e6]; omega
      have c40 : ¬ (40 : Int32) ≤ w - 6 := fun y => by have := i_le.mp y; omega
      have ck : (w - 6).toNatClampNeg = k := by rw [i_cl, w6]; rfl
      have bk : mj_ib (w - 6) 40 = true := mj_ib_of (by omega) (by omega)
      have x12 : (12 * (w - 6)).toInt = 12 * (k : Int) := by rw [i_mul (by rw [e12]; omega) (by rw [e12]; omega), w6, e12]
      have xi : (12 * (w - 6) + 2).toInt = ((12 * k + 2 : Nat) : Int) := by rw [i_add (by omega) (by omega), x12, e2]; omega
      have ci : (12 * (w - 6) + 2).toNatClampNeg = 12 * k + 2 := by rw [i_cl, xi]; omega
      have bi : mj_ib (12 * (w - 6) + 2) 480 = true := mj_ib_of (by omega) (by omega)
      have q1 : fnX10_undo F (I 1) (I 21) (I 29) (I 30) (I 31) (I 32) = some (I 29 0 - 1, I 1, upd (I 21) k s, upd (I 29) 0 (I 29 0 - 1), upd (I 32) 1 0) := by
        unfold fnX10_undo
        rw [if_neg z, lw, Option.bind_some, ls, Option.bind_some, ld, Option.bind_some, if_pos c6, if_neg c40, if_pos bk, ck]
        show some (upd (I 29) 0 (I 29 0 - 1) 0, _) = _
        rw [u0]
      have q2 : fnX11_undo F (I 71) (I 73) (I 75) (I 78) (I 79) = some (I 29 0 - 1, upd (upd (upd (upd (I 71) 0 0) 17 (I 71 17 - 1)) 20 0) 22 0, upd (I 73) (12 * k + 2) s, I 75) := by
        unfold fnX11_undo
        rw [if_neg z2, if_pos b2, m5, t1, if_pos c6, if_pos b2, if_pos bi, ci, t2]
        show some ((upd (upd (upd (upd (I 71) 0 0) 17 (I 71 17 - 1)) 20 0) 22 0) 17, _) = _
        rw [f17]
      refine ⟨I 29 0 - 1, mj_rows I [(1, I 1), (21, upd (I 21) k s), (29, upd (I 29) 0 (I 29 0 - 1)), (30, I 30), (31, I 31), (32, upd (I 32) 1 0)], mj_rows (mj_rows I [(1, I 1), (21, upd (I 21) k s), (29, upd (I 29) 0 (I 29 0 - 1)), (30, I 30), (31, I 31), (32, upd (I 32) 1 0)]) [(71, upd (upd (upd (upd (I 71) 0 0) 17 (I 71 17 - 1)) 20 0) 22 0), (73, upd (I 73) (12 * k + 2) s), (75, I 75), (78, I 78), (79, I 79)], L, L, ?_, ?_, ?_⟩
      · unfold stX10_undo; rw [q1]; rfl
      · show (fnX11_undo F (I 71) (I 73) (I 75) (I 78) (I 79)).map _ = _
        rw [q2]; rfl
      · refine hK.2.2 j I L _ _ hj hI ⟨fun x y1 y2 y3 y4 y5 y6 y7 => ?_, fun k hk => rfl, fun k hk => upd_ne hk, (show upd (I 32) 1 0 1 = 0 from upd_at), f20, f22, fun k k0 k1 k2 k3 => (show upd (upd (upd (upd (I 71) 0 0) 17 (I 71 17 - 1)) 20 0) 22 0 k = I 71 k by rw [upd_ne k3, upd_ne k2, upd_ne k1, upd_ne k0]), pK_up hp v3 v4, hv, N - 1, hch _ (fun k hk => (n4 k hk).2.2)⟩ (fun _ _ => rfl) hr
        rw [rw_k _ _ x (by refine ⟨fun z => ?_, fun z => ?_, fun z => ?_, fun z => ?_, fun z => ?_, trivial⟩ <;> (dsimp only at z; first | (exfalso; omega) | (subst z; rfl))), rw_k _ _ x (by refine ⟨fun z => ?_, fun z => ?_, fun z => ?_, fun z => ?_, fun z => ?_, fun z => ?_, trivial⟩ <;> (dsimp only at z; first | (exfalso; omega) | (subst z; rfl)))]
