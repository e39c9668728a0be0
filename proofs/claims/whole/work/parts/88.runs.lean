/-! ===== run, worth ===== -/
theorem qq_run (F : Nat) (hF : 50000 ≤ F) {I : mj_IT} {L : mj_LT} (hp : pK (I 18) (I 19) (I 20) (I 21) (I 22) (I 23) (I 24) (I 25) (I 26) (I 73)) (hQ : gQ F I) (hli : liI I L) (hv : I 32 1 = 0 → ¬ I 65 0 = I 32 0 + 1) (hw : ∃ a b, lQ I a b ∧ exG F I = some a ∧ lyG F I (rL I (upd (I 71) 0 0)) = some b ∧ b.1 0 = 0 ∧ ((gX I a b ∧ a.1 6 = 0 ∧ b.1 21 = 0 ∧ nsG F I = some (.inl (a.1, a.2.1, a.2.2.1, a.2.2.2.1, a.2.2.2.2.1, a.2.2.2.2.2.1, a.2.2.2.2.2.2.1, a.2.2.2.2.2.2.2.1, a.2.2.2.2.2.2.2.2, I 70)) ∧ fwG F I = some (1, b.1, I 72, b.2)) ∨ (a.1 6 = 1 ∧ b.1 21 = 1 ∧ nsG F I = some (.inr (2, a.1, a.2.1, a.2.2.1, a.2.2.2.1, a.2.2.2.2.1, a.2.2.2.2.2.1, a.2.2.2.2.2.2.1, a.2.2.2.2.2.2.2.1, a.2.2.2.2.2.2.2.2, upd (I 70) 2 (I 70 2 + 1))) ∧ fwG F I = some (0, upd b.1 0 1, upd (I 72) 2 (I 72 2 + 1), b.2)))) (x1 : Int32) :
    ∃ (a : T9) (b : T8), lQ I a b ∧ b.1 0 = 0 ∧ ((∃ (v : Int32) (c65 c66 c67 c69 : Nat → Int32) (k65 k68 q96 : Nat → Int64), fnX10_run F (I 1) (I 18) (I 19) (I 20) (I 21) (I 22) (I 23) (I 24) (I 25) (I 26) (I 32) (I 33) (I 34) (I 35) (I 36) (I 37) (I 38) (I 39) (I 40) (I 65) (I 66) (I 67) (I 69) (I 70) (L 65) (L 68) x1 = some (.inl (v, a.1, a.2.1, a.2.2.1, a.2.2.2.1, a.2.2.2.2.1, a.2.2.2.2.2.1, a.2.2.2.2.2.2.1, a.2.2.2.2.2.2.2.1, a.2.2.2.2.2.2.2.2, c65, c66, c67, c69, I 70, k65, k68)) ∧ fnX11_run F (I 71) (I 72) (I 73) (I 75) (I 80) (I 81) (I 82) (I 83) (I 84) (I 85) (I 86) (I 87) (L 96) x1 = some (v, b.1, I 72, b.2.1, b.2.2.1, b.2.2.2.1, b.2.2.2.2.1, b.2.2.2.2.2.1, b.2.2.2.2.2.2.1, b.2.2.2.2.2.2.2, q96) ∧ c65 0 = a.1 0 ∧ ∃ (n : Nat) (fr na : Nat → Nat) (tg : Nat → Nat → Nat) (sh : Nat → Nat → Int), gGab I a b n fr na tg sh ∧ lkQ na tg sh (I 18) (I 19) (I 21) a.1 a.2.1 c65 c66 k65) ∨ (∃ (k : Nat) (e : Int32) (t : Nat), ok_run k = true ∧ wk_run k = e ∧ ¬ e = 0 ∧ t < 3 ∧ fnX10_run F (I 1) (I 18) (I 19) (I 20) (I 21) (I 22) (I 23) (I 24) (I 25) (I 26) (I 32) (I 33) (I 34) (I 35) (I 36) (I 37) (I 38) (I 39) (I 40) (I 65) (I 66) (I 67) (I 69) (I 70) (L 65) (L 68) x1 = some (.inr (k, a.1, a.2.1, a.2.2.1, a.2.2.2.1, a.2.2.2.2.1, a.2.2.2.2.2.1, a.2.2.2.2.2.2.1, a.2.2.2.2.2.2.2.1, a.2.2.2.2.2.2.2.2, I 65, I 66, I 67, I 69, upd (I 70) t (I 70 t + 1), L 65, L 68)) ∧ fnX11_run F (I 71) (I 72) (I 73) (I 75) (I 80) (I 81) (I 82) (I 83) (I 84) (I 85) (I 86) (I 87) (L 96) x1 = some (0, upd b.1 0 e, upd (I 72) t (I 72 t + 1), b.2.1, b.2.2.1, b.2.2.2.1, b.2.2.2.2.1, b.2.2.2.2.2.1, b.2.2.2.2.2.2.1, b.2.2.2.2.2.2.2, L 96))) := by
  obtain ⟨a, b, hl, ha, hb, b0, hd⟩ := hw
  refine ⟨a, b, hl, b0, ?_⟩
  have N1 : ¬ (1 : Int32) = 0 := by decide
  rcases hd with ⟨hX, m1, m2, hn, hf⟩ | ⟨m1, m2, hn, hf⟩
  · unfold nsG at hn
    unfold fwG at hf
    left
    obtain ⟨n, fr, na, tg, sh, oc, ol, hG, w1, w2, w3, w4, w5, w6⟩ := q_find F (by omega) hp hQ hli hv hl hX
    rcases w6 with ⟨u1, u2⟩ | ⟨k, s0, u1, u2, u3, u4, u5, u6, u7, u8, u9⟩
    · refine ⟨-1, oc.1, oc.2.1, oc.2.2.1, oc.2.2.2.1, oc.2.2.2.2.1, oc.2.2.2.2.2, ol.2, ?_, ?_, w2, n, fr, na, tg, sh, hG, w3⟩
      · simp only [fnX10_run, hn, w1, fnX5_exists, if_pos u2, eq_self, if_true, Option.bind_some, Sum.elim_inl, Sum.elim_inr]
      · simp only [fnX11_run, hf, if_neg N1, w4, if_pos u1, u1, eq_self, if_true, Option.bind_some, Sum.elim_inl, Sum.elim_inr]
    · by_cases h1 : x1 = -1
      refine ⟨ol.1, oc.1, oc.2.1, oc.2.2.1, oc.2.2.2.1, oc.2.2.2.2.1, oc.2.2.2.2.2, ol.2, ?_, ?_, w2, n, fr, na, tg, sh, hG, w3⟩
      · simp only [fnX10_run, hn, w1, fnX5_exists, if_neg u4, if_neg N1, if_pos h1, u6, Option.bind_some, Sum.elim_inl, Sum.elim_inr]
      · simp only [fnX11_run, hf, if_neg N1, w4, if_neg u3, if_pos h1, Option.bind_some, Sum.elim_inl, Sum.elim_inr]
      · have e0 : (0 : Int32).toInt = 0 := rfl
        have e1 : (1 : Int32).toInt = 1 := rfl
        have hk1 : (ol.1 - 1).toInt64.toInt = (k : Int) - 1 := by rw [l_i32, i_sub (by omega) (by omega), u1, e1]
        by_cases h2 : 0 ≤ x1.toInt ∧ x1.toInt < (k : Int)
        · have h3 : ¬ x1 < 0 := fun z => by have := i_lt.mp z; omega
          have h4 : ¬ ol.1 ≤ x1 := fun z => by have := i_le.mp z; omega
          have h5 : mj_ib x1 10 = true := mj_ib_of (by omega) (by omega)
          have h6 := q_lies3_in F (x := x1) (a := 0) (b := (ol.1 - 1).toInt64) ⟨h2.1, by rw [hk1]; omega⟩
          obtain ⟨q, hq⟩ : ∃ q, x1.toNatClampNeg = q := ⟨_, rfl⟩
          have hqx : x1.toInt = (q : Nat) := by rw [← hq, i_cl]; omega
          obtain ⟨o, d1, s', aa, d2, d3⟩ := s11_drawnAt F (by omega) (lH_of hp hG) w5 u1 hqx u2 (by omega) u7 u8
          obtain ⟨s2, a2, g2, g3⟩ := u9 q (by omega)
          have ho : oc.2.1 x1.toNatClampNeg = o := by
            obtain ⟨r1, r2⟩ := pth_one _ _ _ _ _ _ _ g2 d2
            subst r1
            subst r2
            rw [hq]
            exact dvR_one g3 d3
          refine ⟨o, oc.1, oc.2.1, oc.2.2.1, oc.2.2.2.1, oc.2.2.2.2.1, oc.2.2.2.2.2, ol.2, ?_, ?_, w2, n, fr, na, tg, sh, hG, w3⟩
          · simp only [fnX10_run, hn, w1, fnX5_exists, if_neg u4, if_neg N1, if_neg h1, if_neg h3, u6, if_neg h4, if_pos h5, ho, Option.bind_some, Sum.elim_inl, Sum.elim_inr]
          · simp only [fnX11_run, hf, if_neg N1, w4, if_neg u3, if_neg h1, h6, d1, Option.bind_some, Sum.elim_inl, Sum.elim_inr]
        · have h6 := q_lies3_out F (x := x1) (a := 0) (b := (ol.1 - 1).toInt64) (fun z => h2 ⟨z.1, by have := z.2; rw [hk1] at this; omega⟩)
          by_cases h3 : x1 < 0
          · refine ⟨-1, oc.1, oc.2.1, oc.2.2.1, oc.2.2.2.1, oc.2.2.2.2.1, oc.2.2.2.2.2, ol.2, ?_, ?_, w2, n, fr, na, tg, sh, hG, w3⟩
            · simp only [fnX10_run, hn, w1, fnX5_exists, if_neg u4, if_neg N1, if_neg h1, if_pos h3, Option.bind_some, Sum.elim_inl, Sum.elim_inr]
            · simp only [fnX11_run, hf, if_neg N1, w4, if_neg u3, if_neg h1, h6, eq_self, if_true, Option.bind_some, Sum.elim_inl, Sum.elim_inr]
          · have h4 : ol.1 ≤ x1 := i_le.mpr (by have : ¬ x1.toInt < (0 : Int32).toInt := fun z => h3 (i_lt.mpr z); omega)
            refine ⟨-1, oc.1, oc.2.1, oc.2.2.1, oc.2.2.2.1, oc.2.2.2.2.1, oc.2.2.2.2.2, ol.2, ?_, ?_, w2, n, fr, na, tg, sh, hG, w3⟩
            · simp only [fnX10_run, hn, w1, fnX5_exists, if_neg u4, if_neg N1, if_neg h1, if_neg h3, u6, if_pos h4, Option.bind_some, Sum.elim_inl, Sum.elim_inr]
            · simp only [fnX11_run, hf, if_neg N1, w4, if_neg u3, if_neg h1, h6, eq_self, if_true, Option.bind_some, Sum.elim_inl, Sum.elim_inr]
  · unfold nsG at hn
    unfold fwG at hf
    right
    refine ⟨2, 1, 2, rfl, rfl, by decide, by decide, ?_, ?_⟩
    · simp only [fnX10_run, hn, Option.bind_some, Sum.elim_inl, Sum.elim_inr]
    · simp only [fnX11_run, hf, eq_self, if_true, Option.bind_some, Sum.elim_inl, Sum.elim_inr]
theorem b_run (F : Nat) (hF : 50000 ≤ F) {Inv : Nat → mj_IT → mj_LT → Prop} (hKL : kL F Inv) : pb_run F Inv := by
  intro j hj I L hI x1
  have hK := hKL.1
  obtain ⟨hr, hp, h4, hv, hf⟩ := hK.1.2 j I L hj hI
  obtain ⟨hQ, ht, h9, h17⟩ := hK.2.2 j I L hj hI
  obtain ⟨hli, hvs⟩ := hKL.2.2 j I L hj hI
  obtain ⟨a, b, hl, b0, hd⟩ := qq_run F hF hp hQ hli hvs (q_few (gQ_go F (by omega) hp h4 ht hv hQ)) _
  rcases hd with ⟨v, c65, c66, c67, c69, k65, k68, q96, q1, q2, w1, n, fr, na, tg, sh, w2, w3⟩ | ⟨k, e, t, o1, o2, o3, o4, q1, q2⟩
  · refine ⟨.inl (v, mj_rows I [(1, I 1), (18, I 18), (19, I 19), (20, I 20), (21, I 21), (22, I 22), (23, I 23), (24, I 24), (25, I 25), (26, I 26), (32, a.1), (33, a.2.1), (34, a.2.2.1), (35, a.2.2.2.1), (36, a.2.2.2.2.1), (37, a.2.2.2.2.2.1), (38, a.2.2.2.2.2.2.1), (39, a.2.2.2.2.2.2.2.1), (40, a.2.2.2.2.2.2.2.2), (65, c65), (66, c66), (67, c67), (69, c69), (70, I 70)], mj_rows L [(65, k65), (68, k68)]), v, 0, mj_rows (mj_rows I [(1, I 1), (18, I 18), (19, I 19), (20, I 20), (21, I 21), (22, I 22), (23, I 23), (24, I 24), (25, I 25), (26, I 26), (32, a.1), (33, a.2.1), (34, a.2.2.1), (35, a.2.2.2.1), (36, a.2.2.2.2.1), (37, a.2.2.2.2.2.1), (38, a.2.2.2.2.2.2.1), (39, a.2.2.2.2.2.2.2.1), (40, a.2.2.2.2.2.2.2.2), (65, c65), (66, c66), (67, c67), (69, c69), (70, I 70)]) [(71, b.1), (72, I 72), (73, I 73), (75, I 75), (80, b.2.1), (81, b.2.2.1), (82, b.2.2.2.1), (83, b.2.2.2.2.1), (84, b.2.2.2.2.2.1), (85, b.2.2.2.2.2.2.1), (86, b.2.2.2.2.2.2.2), (87, I 87)], mj_rows (mj_rows (mj_rows I [(1, I 1), (18, I 18), (19, I 19), (20, I 20), (21, I 21), (22, I 22), (23, I 23), (24, I 24), (25, I 25), (26, I 26), (32, a.1), (33, a.2.1), (34, a.2.2.1), (35, a.2.2.2.1), (36, a.2.2.2.2.1), (37, a.2.2.2.2.2.1), (38, a.2.2.2.2.2.2.1), (39, a.2.2.2.2.2.2.2.1), (40, a.2.2.2.2.2.2.2.2), (65, c65), (66, c66), (67, c67), (69, c69), (70, I 70)]) [(71, b.1), (72, I 72), (73, I 73), (75, I 75), (80, b.2.1), (81, b.2.2.1), (82, b.2.2.2.1), (83, b.2.2.2.2.1), (84, b.2.2.2.2.2.1), (85, b.2.2.2.2.2.2.1), (86, b.2.2.2.2.2.2.2), (87, I 87)]) [(71, b.1)], mj_rows (va_up (mj_rows L [(65, k65), (68, k68)]) 98 (vp_updL ((mj_rows L [(65, k65), (68, k68)]) 98) 0 v.toInt64)) [(96, q96)], mj_rows (va_up (mj_rows L [(65, k65), (68, k68)]) 98 (vp_updL ((mj_rows L [(65, k65), (68, k68)]) 98) 0 v.toInt64)) [(96, q96)], ?_, ?_, ?_, ?_, rfl, fun _ => rfl, ?_⟩
    · unfold stX10_run; rw [q1]; rfl
    · intro q hq; cases hq
    · show (fnX11_run F (I 71) (I 72) (I 73) (I 75) (I 80) (I 81) (I 82) (I 83) (I 84) (I 85) (I 86) (I 87) (L 96) x1).map _ = _
      rw [q2]; rfl
    · show some (b.1 0, _, _) = _
      rw [b0]; rfl
    · refine lG_inv hKL hj hI hQ hl (fun x x1 x2 x3 => ?_) rfl rfl hr (fun k k0 => rfl) w1 (fun _ _ => ⟨n, fr, na, tg, sh, w2, w3⟩) (fun x x1 x2 x3 x4 => ?_)
      · rw [rw_k _ _ x (by refine ⟨fun z => ?_, trivial⟩ <;> (dsimp only at z; first | (exfalso; omega) | (subst z; rfl))), rw_k _ _ x (by refine ⟨fun z => ?_, fun z => ?_, fun z => ?_, fun z => ?_, fun z => ?_, fun z => ?_, fun z => ?_, fun z => ?_, fun z => ?_, fun z => ?_, fun z => ?_, fun z => ?_, trivial⟩ <;> (dsimp only at z; first | (exfalso; omega) | (subst z; rfl))), rw_k _ _ x (by refine ⟨fun z => ?_, fun z => ?_, fun z => ?_, fun z => ?_, fun z => ?_, fun z => ?_, fun z => ?_, fun z => ?_, fun z => ?_, fun z => ?_, fun z => ?_, fun z => ?_, fun z => ?_, fun z => ?_, fun z => ?_, fun z => ?_, fun z => ?_, fun z => ?_, fun z => ?_, fun z => ?_, fun z => ?_, fun z => ?_, fun z => ?_, fun z => ?_, trivial⟩ <;> (dsimp only at z; first | (exfalso; omega) | (subst z; rfl)))]
      · rw [rw_k _ _ x (by refine ⟨fun z => ?_, trivial⟩ <;> (dsimp only at z; first | (exfalso; omega) | (subst z; rfl)))]
        refine (frL_up _ _ x x4).trans ?_
        rw [rw_k _ _ x (by refine ⟨fun z => ?_, fun z => ?_, trivial⟩ <;> (dsimp only at z; first | (exfalso; omega) | (subst z; rfl)))]
  · refine ⟨.inr (k, mj_rows I [(1, I 1), (18, I 18), (19, I 19), (20, I 20), (21, I 21), (22, I 22), (23, I 23), (24, I 24), (25, I 25), (26, I 26), (32, a.1), (33, a.2.1), (34, a.2.2.1), (35, a.2.2.2.1), (36, a.2.2.2.2.1), (37, a.2.2.2.2.2.1), (38, a.2.2.2.2.2.2.1), (39, a.2.2.2.2.2.2.2.1), (40, a.2.2.2.2.2.2.2.2), (65, I 65), (66, I 66), (67, I 67), (69, I 69), (70, upd (I 70) t (I 70 t + 1))], mj_rows L [(65, L 65), (68, L 68)]), 0, e, mj_rows (mj_rows I [(1, I 1), (18, I 18), (19, I 19), (20, I 20), (21, I 21), (22, I 22), (23, I 23), (24, I 24), (25, I 25), (26, I 26), (32, a.1), (33, a.2.1), (34, a.2.2.1), (35, a.2.2.2.1), (36, a.2.2.2.2.1), (37, a.2.2.2.2.2.1), (38, a.2.2.2.2.2.2.1), (39, a.2.2.2.2.2.2.2.1), (40, a.2.2.2.2.2.2.2.2), (65, I 65), (66, I 66), (67, I 67), (69, I 69), (70, upd (I 70) t (I 70 t + 1))]) [(71, upd b.1 0 e), (72, upd (I 72) t (I 72 t + 1)), (73, I 73), (75, I 75), (80, b.2.1), (81, b.2.2.1), (82, b.2.2.2.1), (83, b.2.2.2.2.1), (84, b.2.2.2.2.2.1), (85, b.2.2.2.2.2.2.1), (86, b.2.2.2.2.2.2.2), (87, I 87)], mj_rows (mj_rows (mj_rows I [(1, I 1), (18, I 18), (19, I 19), (20, I 20), (21, I 21), (22, I 22), (23, I 23), (24, I 24), (25, I 25), (26, I 26), (32, a.1), (33, a.2.1), (34, a.2.2.1), (35, a.2.2.2.1), (36, a.2.2.2.2.1), (37, a.2.2.2.2.2.1), (38, a.2.2.2.2.2.2.1), (39, a.2.2.2.2.2.2.2.1), (40, a.2.2.2.2.2.2.2.2), (65, I 65), (66, I 66), (67, I 67), (69, I 69), (70, upd (I 70) t (I 70 t + 1))]) [(71, upd b.1 0 e), (72, upd (I 72) t (I 72 t + 1)), (73, I 73), (75, I 75), (80, b.2.1), (81, b.2.2.1), (82, b.2.2.2.1), (83, b.2.2.2.2.1), (84, b.2.2.2.2.2.1), (85, b.2.2.2.2.2.2.1), (86, b.2.2.2.2.2.2.2), (87, I 87)]) [(71, upd b.1 0 e)], mj_rows (mj_rows L [(65, L 65), (68, L 68)]) [(96, L 96)], mj_rows (mj_rows L [(65, L 65), (68, L 68)]) [(96, L 96)], ?_, ?_, ?_, rfl, ?_, ?_, ?_⟩
    · unfold stX10_run; rw [q1]; rfl
    · intro q hq; cases hq; exact o1
    · show (fnX11_run F (I 71) (I 72) (I 73) (I 75) (I 80) (I 81) (I 82) (I 83) (I 84) (I 85) (I 86) (I 87) (L 96) x1).map _ = _
      rw [q2]; rfl
    · exact o2.symm
    · intro z; exact absurd (o2.symm.trans z) o3
    · refine gG_inv hK hj hI hQ hl (fun x x1 x2 x3 => ?_) rfl rfl (fun k k0 => upd_ne k0) (rf_up hr o4) (fun x x3 => ?_)
      · rw [rw_k _ _ x (by refine ⟨fun z => ?_, trivial⟩ <;> (dsimp only at z; first | (exfalso; omega) | (subst z; rfl))), rw_k _ _ x (by refine ⟨fun z => ?_, fun z => ?_, fun z => ?_, fun z => ?_, fun z => ?_, fun z => ?_, fun z => ?_, fun z => ?_, fun z => ?_, fun z => ?_, fun z => ?_, fun z => ?_, trivial⟩ <;> (dsimp only at z; first | (exfalso; omega) | (subst z; rfl))), rw_k _ _ x (by refine ⟨fun z => ?_, fun z => ?_, fun z => ?_, fun z => ?_, fun z => ?_, fun z => ?_, fun z => ?_, fun z => ?_, fun z => ?_, fun z => ?_, fun z => ?_, fun z => ?_, fun z => ?_, fun z => ?_, fun z => ?_, fun z => ?_, fun z => ?_, fun z => ?_, fun z => ?_, fun z => ?_, fun z => ?_, fun z => ?_, fun z => ?_, fun z => ?_, trivial⟩ <;> (dsimp only at z; first | (exfalso; omega) | (subst z; rfl)))]
      · rw [rw_k _ _ x (by refine ⟨fun z => ?_, trivial⟩ <;> (dsimp only at z; first | (exfalso; omega) | (subst z; rfl))), rw_k _ _ x (by refine ⟨fun z => ?_, fun z => ?_, trivial⟩ <;> (dsimp only at z; first | (exfalso; omega) | (subst z; rfl)))]
theorem qq_worth (F : Nat) (hF : 50000 ≤ F) {I : mj_IT} {L : mj_LT} (hp : pK (I 18) (I 19) (I 20) (I 21) (I 22) (I 23) (I 24) (I 25) (I 26) (I 73)) (hQ : gQ F I) (hli : liI I L) (hv : I 32 1 = 0 → ¬ I 65 0 = I 32 0 + 1) (hw : ∃ a b, lQ I a b ∧ exG F I = some a ∧ lyG F I (rL I (upd (I 71) 0 0)) = some b ∧ b.1 0 = 0 ∧ ((gX I a b ∧ a.1 6 = 0 ∧ b.1 21 = 0 ∧ nsG F I = some (.inl (a.1, a.2.1, a.2.2.1, a.2.2.2.1, a.2.2.2.2.1, a.2.2.2.2.2.1, a.2.2.2.2.2.2.1, a.2.2.2.2.2.2.2.1, a.2.2.2.2.2.2.2.2, I 70)) ∧ fwG F I = some (1, b.1, I 72, b.2)) ∨ (a.1 6 = 1 ∧ b.1 21 = 1 ∧ nsG F I = some (.inr (2, a.1, a.2.1, a.2.2.1, a.2.2.2.1, a.2.2.2.2.1, a.2.2.2.2.2.1, a.2.2.2.2.2.2.1, a.2.2.2.2.2.2.2.1, a.2.2.2.2.2.2.2.2, upd (I 70) 2 (I 70 2 + 1))) ∧ fwG F I = some (0, upd b.1 0 1, upd (I 72) 2 (I 72 2 + 1), b.2)))) :
    ∃ (a : T9) (b : T8), lQ I a b ∧ b.1 0 = 0 ∧ ((∃ (v : Int64) (c65 c66 c67 c69 : Nat → Int32) (k65 k68 q96 : Nat → Int64), fnX10_worth F (I 1) (I 18) (I 19) (I 20) (I 21) (I 22) (I 23) (I 24) (I 25) (I 26) (I 32) (I 33) (I 34) (I 35) (I 36) (I 37) (I 38) (I 39) (I 40) (I 65) (I 66) (I 67) (I 69) (I 70) (L 65) (L 68) = some (.inl (v, a.1, a.2.1, a.2.2.1, a.2.2.2.1, a.2.2.2.2.1, a.2.2.2.2.2.1, a.2.2.2.2.2.2.1, a.2.2.2.2.2.2.2.1, a.2.2.2.2.2.2.2.2, c65, c66, c67, c69, I 70, k65, k68)) ∧ fnX11_worth F (I 71) (I 72) (I 73) (I 75) (I 80) (I 81) (I 82) (I 83) (I 84) (I 85) (I 86) (I 87) (L 96) = some (v, b.1, I 72, b.2.1, b.2.2.1, b.2.2.2.1, b.2.2.2.2.1, b.2.2.2.2.2.1, b.2.2.2.2.2.2.1, b.2.2.2.2.2.2.2, q96) ∧ c65 0 = a.1 0 ∧ ∃ (n : Nat) (fr na : Nat → Nat) (tg : Nat → Nat → Nat) (sh : Nat → Nat → Int), gGab I a b n fr na tg sh ∧ lkQ na tg sh (I 18) (I 19) (I 21) a.1 a.2.1 c65 c66 k65) ∨ (∃ (k : Nat) (e : Int32) (t : Nat), ok_worth k = true ∧ wk_worth k = e ∧ ¬ e = 0 ∧ t < 3 ∧ fnX10_worth F (I 1) (I 18) (I 19) (I 20) (I 21) (I 22) (I 23) (I 24) (I 25) (I 26) (I 32) (I 33) (I 34) (I 35) (I 36) (I 37) (I 38) (I 39) (I 40) (I 65) (I 66) (I 67) (I 69) (I 70) (L 65) (L 68) = some (.inr (k, a.1, a.2.1, a.2.2.1, a.2.2.2.1, a.2.2.2.2.1, a.2.2.2.2.2.1, a.2.2.2.2.2.2.1, a.2.2.2.2.2.2.2.1, a.2.2.2.2.2.2.2.2, I 65, I 66, I 67, I 69, upd (I 70) t (I 70 t + 1), L 65, L 68)) ∧ fnX11_worth F (I 71) (I 72) (I 73) (I 75) (I 80) (I 81) (I 82) (I 83) (I 84) (I 85) (I 86) (I 87) (L 96) = some (0, upd b.1 0 e, upd (I 72) t (I 72 t + 1), b.2.1, b.2.2.1, b.2.2.2.1, b.2.2.2.2.1, b.2.2.2.2.2.1, b.2.2.2.2.2.2.1, b.2.2.2.2.2.2.2, L 96))) := by
  obtain ⟨a, b, hl, ha, hb, b0, hd⟩ := hw
  refine ⟨a, b, hl, b0, ?_⟩
  have N1 : ¬ (1 : Int32) = 0 := by decide
  rcases hd with ⟨hX, m1, m2, hn, hf⟩ | ⟨m1, m2, hn, hf⟩
  · unfold nsG at hn
    unfold fwG at hf
    left
    obtain ⟨n, fr, na, tg, sh, oc, ol, hG, w1, w2, w3, w4, w5, w6⟩ := q_find F (by omega) hp hQ hli hv hl hX
    rcases w6 with ⟨u1, u2⟩ | ⟨k, s0, u1, u2, u3, u4, u5, u6, u7, u8, u9⟩
    · refine ⟨-1, oc.1, oc.2.1, oc.2.2.1, oc.2.2.2.1, oc.2.2.2.2.1, oc.2.2.2.2.2, ol.2, ?_, ?_, w2, n, fr, na, tg, sh, hG, w3⟩
      · simp only [fnX10_worth, hn, w1, fnX5_exists, if_pos u2, eq_self, if_true, Option.bind_some, Sum.elim_inl, Sum.elim_inr]
      · simp only [fnX11_worth, hf, if_neg N1, w4, if_pos u1, Option.bind_some, Sum.elim_inl, Sum.elim_inr]
    · obtain ⟨o5, o6, v1, v2, v3⟩ := s11_vd F (by omega) (lH_of hp hG) w5 u1 u2
      have ho : oc.2.2.2.2.1 1 = o5 * o6 := l_eq.mpr (by rw [v3]; exact u5)
      rw [ho] at u4
      refine ⟨o5 * o6, oc.1, oc.2.1, oc.2.2.1, oc.2.2.2.1, oc.2.2.2.2.1, oc.2.2.2.2.2, ol.2, ?_, ?_, w2, n, fr, na, tg, sh, hG, w3⟩
      · simp only [fnX10_worth, hn, w1, fnX5_exists, if_neg u4, if_neg N1, ho, Option.bind_some, Sum.elim_inl, Sum.elim_inr]
      · simp only [fnX11_worth, hf, if_neg N1, w4, if_neg u3, v1, v2, Option.bind_some, Sum.elim_inl, Sum.elim_inr]
  · unfold nsG at hn
    unfold fwG at hf
    right
    refine ⟨2, 1, 2, rfl, rfl, by decide, by decide, ?_, ?_⟩
    · simp only [fnX10_worth, hn, Option.bind_some, Sum.elim_inl, Sum.elim_inr]
    · simp only [fnX11_worth, hf, eq_self, if_true, Option.bind_some, Sum.elim_inl, Sum.elim_inr]
theorem b_worth (F : Nat) (hF : 50000 ≤ F) {Inv : Nat → mj_IT → mj_LT → Prop} (hKL : kL F Inv) : pb_worth F Inv := by
  intro j hj I L hI
  have hK := hKL.1
  obtain ⟨hr, hp, h4, hv, hf⟩ := hK.1.2 j I L hj hI
  obtain ⟨hQ, ht, h9, h17⟩ := hK.2.2 j I L hj hI
  obtain ⟨hli, hvs⟩ := hKL.2.2 j I L hj hI
  obtain ⟨a, b, hl, b0, hd⟩ := qq_worth F hF hp hQ hli hvs (q_few (gQ_go F (by omega) hp h4 ht hv hQ))
  rcases hd with ⟨v, c65, c66, c67, c69, k65, k68, q96, q1, q2, w1, n, fr, na, tg, sh, w2, w3⟩ | ⟨k, e, t, o1, o2, o3, o4, q1, q2⟩
  · refine ⟨.inl (v, mj_rows I [(1, I 1), (18, I 18), (19, I 19), (20, I 20), (21, I 21), (22, I 22), (23, I 23), (24, I 24), (25, I 25), (26, I 26), (32, a.1), (33, a.2.1), (34, a.2.2.1), (35, a.2.2.2.1), (36, a.2.2.2.2.1), (37, a.2.2.2.2.2.1), (38, a.2.2.2.2.2.2.1), (39, a.2.2.2.2.2.2.2.1), (40, a.2.2.2.2.2.2.2.2), (65, c65), (66, c66), (67, c67), (69, c69), (70, I 70)], mj_rows L [(65, k65), (68, k68)]), v, 0, mj_rows (mj_rows I [(1, I 1), (18, I 18), (19, I 19), (20, I 20), (21, I 21), (22, I 22), (23, I 23), (24, I 24), (25, I 25), (26, I 26), (32, a.1), (33, a.2.1), (34, a.2.2.1), (35, a.2.2.2.1), (36, a.2.2.2.2.1), (37, a.2.2.2.2.2.1), (38, a.2.2.2.2.2.2.1), (39, a.2.2.2.2.2.2.2.1), (40, a.2.2.2.2.2.2.2.2), (65, c65), (66, c66), (67, c67), (69, c69), (70, I 70)]) [(71, b.1), (72, I 72), (73, I 73), (75, I 75), (80, b.2.1), (81, b.2.2.1), (82, b.2.2.2.1), (83, b.2.2.2.2.1), (84, b.2.2.2.2.2.1), (85, b.2.2.2.2.2.2.1), (86, b.2.2.2.2.2.2.2), (87, I 87)], mj_rows (mj_rows (mj_rows I [(1, I 1), (18, I 18), (19, I 19), (20, I 20), (21, I 21), (22, I 22), (23, I 23), (24, I 24), (25, I 25), (26, I 26), (32, a.1), (33, a.2.1), (34, a.2.2.1), (35, a.2.2.2.1), (36, a.2.2.2.2.1), (37, a.2.2.2.2.2.1), (38, a.2.2.2.2.2.2.1), (39, a.2.2.2.2.2.2.2.1), (40, a.2.2.2.2.2.2.2.2), (65, c65), (66, c66), (67, c67), (69, c69), (70, I 70)]) [(71, b.1), (72, I 72), (73, I 73), (75, I 75), (80, b.2.1), (81, b.2.2.1), (82, b.2.2.2.1), (83, b.2.2.2.2.1), (84, b.2.2.2.2.2.1), (85, b.2.2.2.2.2.2.1), (86, b.2.2.2.2.2.2.2), (87, I 87)]) [(71, b.1)], mj_rows (va_up (mj_rows L [(65, k65), (68, k68)]) 98 (vp_updL ((mj_rows L [(65, k65), (68, k68)]) 98) 0 v)) [(96, q96)], mj_rows (va_up (mj_rows L [(65, k65), (68, k68)]) 98 (vp_updL ((mj_rows L [(65, k65), (68, k68)]) 98) 0 v)) [(96, q96)], ?_, ?_, ?_, ?_, rfl, fun _ => rfl, ?_⟩
    · unfold stX10_worth; rw [q1]; rfl
    · intro q hq; cases hq
    · show (fnX11_worth F (I 71) (I 72) (I 73) (I 75) (I 80) (I 81) (I 82) (I 83) (I 84) (I 85) (I 86) (I 87) (L 96)).map _ = _
      rw [q2]; rfl
    · show some (b.1 0, _, _) = _
      rw [b0]; rfl
    · refine lG_inv hKL hj hI hQ hl (fun x x1 x2 x3 => ?_) rfl rfl hr (fun k k0 => rfl) w1 (fun _ _ => ⟨n, fr, na, tg, sh, w2, w3⟩) (fun x x1 x2 x3 x4 => ?_)
      · rw [rw_k _ _ x (by refine ⟨fun z => ?_, trivial⟩ <;> (dsimp only at z; first | (exfalso; omega) | (subst z; rfl))), rw_k _ _ x (by refine ⟨fun z => ?_, fun z => ?_, fun z => ?_, fun z => ?_, fun z => ?_, fun z => ?_, fun z => ?_, fun z => ?_, fun z => ?_, fun z => ?_, fun z => ?_, fun z => ?_, trivial⟩ <;> (dsimp only at z; first | (exfalso; omega) | (subst z; rfl))), rw_k _ _ x (by refine ⟨fun z => ?_, fun z => ?_, fun z => ?_, fun z => ?_, fun z => ?_, fun z => ?_, fun z => ?_, fun z => ?_, fun z => ?_, fun z => ?_, fun z => ?_, fun z => ?_, fun z => ?_, fun z => ?_, fun z => ?_, fun z => ?_, fun z => ?_, fun z => ?_, fun z => ?_, fun z => ?_, fun z => ?_, fun z => ?_, fun z => ?_, fun z => ?_, trivial⟩ <;> (dsimp only at z; first | (exfalso; omega) | (subst z; rfl)))]
      · rw [rw_k _ _ x (by refine ⟨fun z => ?_, trivial⟩ <;> (dsimp only at z; first | (exfalso; omega) | (subst z; rfl)))]
        refine (frL_up _ _ x x4).trans ?_
        rw [rw_k _ _ x (by refine ⟨fun z => ?_, fun z => ?_, trivial⟩ <;> (dsimp only at z; first | (exfalso; omega) | (subst z; rfl)))]
  · refine ⟨.inr (k, mj_rows I [(1, I 1), (18, I 18), (19, I 19), (20, I 20), (21, I 21), (22, I 22), (23, I 23), (24, I 24), (25, I 25), (26, I 26), (32, a.1), (33, a.2.1), (34, a.2.2.1), (35, a.2.2.2.1), (36, a.2.2.2.2.1), (37, a.2.2.2.2.2.1), (38, a.2.2.2.2.2.2.1), (39, a.2.2.2.2.2.2.2.1), (40, a.2.2.2.2.2.2.2.2), (65, I 65), (66, I 66), (67, I 67), (69, I 69), (70, upd (I 70) t (I 70 t + 1))], mj_rows L [(65, L 65), (68, L 68)]), 0, e, mj_rows (mj_rows I [(1, I 1), (18, I 18), (19, I 19), (20, I 20), (21, I 21), (22, I 22), (23, I 23), (24, I 24), (25, I 25), (26, I 26), (32, a.1), (33, a.2.1), (34, a.2.2.1), (35, a.2.2.2.1), (36, a.2.2.2.2.1), (37, a.2.2.2.2.2.1), (38, a.2.2.2.2.2.2.1), (39, a.2.2.2.2.2.2.2.1), (40, a.2.2.2.2.2.2.2.2), (65, I 65), (66, I 66), (67, I 67), (69, I 69), (70, upd (I 70) t (I 70 t + 1))]) [(71, upd b.1 0 e), (72, upd (I 72) t (I 72 t + 1)), (73, I 73), (75, I 75), (80, b.2.1), (81, b.2.2.1), (82, b.2.2.2.1), (83, b.2.2.2.2.1), (84, b.2.2.2.2.2.1), (85, b.2.2.2.2.2.2.1), (86, b.2.2.2.2.2.2.2), (87, I 87)], mj_rows (mj_rows (mj_rows I [(1, I 1), (18, I 18), (19, I 19), (20, I 20), (21, I 21), (22, I 22), (23, I 23), (24, I 24), (25, I 25), (26, I 26), (32, a.1), (33, a.2.1), (34, a.2.2.1), (35, a.2.2.2.1), (36, a.2.2.2.2.1), (37, a.2.2.2.2.2.1), (38, a.2.2.2.2.2.2.1), (39, a.2.2.2.2.2.2.2.1), (40, a.2.2.2.2.2.2.2.2), (65, I 65), (66, I 66), (67, I 67), (69, I 69), (70, upd (I 70) t (I 70 t + 1))]) [(71, upd b.1 0 e), (72, upd (I 72) t (I 72 t + 1)), (73, I 73), (75, I 75), (80, b.2.1), (81, b.2.2.1), (82, b.2.2.2.1), (83, b.2.2.2.2.1), (84, b.2.2.2.2.2.1), (85, b.2.2.2.2.2.2.1), (86, b.2.2.2.2.2.2.2), (87, I 87)]) [(71, upd b.1 0 e)], mj_rows (mj_rows L [(65, L 65), (68, L 68)]) [(96, L 96)], mj_rows (mj_rows L [(65, L 65), (68, L 68)]) [(96, L 96)], ?_, ?_, ?_, rfl, ?_, ?_, ?_⟩
    · unfold stX10_worth; rw [q1]; rfl
    · intro q hq; cases hq; exact o1
    · show (fnX11_worth F (I 71) (I 72) (I 73) (I 75) (I 80) (I 81) (I 82) (I 83) (I 84) (I 85) (I 86) (I 87) (L 96)).map _ = _
      rw [q2]; rfl
    · exact o2.symm
    · intro z; exact absurd (o2.symm.trans z) o3
    · refine gG_inv hK hj hI hQ hl (fun x x1 x2 x3 => ?_) rfl rfl (fun k k0 => upd_ne k0) (rf_up hr o4) (fun x x3 => ?_)
      · rw [rw_k _ _ x (by refine ⟨fun z => ?_, trivial⟩ <;> (dsimp only at z; first | (exfalso; omega) | (subst z; rfl))), rw_k _ _ x (by refine ⟨fun z => ?_, fun z => ?_, fun z => ?_, fun z => ?_, fun z => ?_, fun z => ?_, fun z => ?_, fun z => ?_, fun z => ?_, fun z => ?_, fun z => ?_, fun z => ?_, trivial⟩ <;> (dsimp only at z; first | (exfalso; omega) | (subst z; rfl))), rw_k _ _ x (by refine ⟨fun z => ?_, fun z => ?_, fun z => ?_, fun z => ?_, fun z => ?_, fun z => ?_, fun z => ?_, fun z => ?_, fun z => ?_, fun z => ?_, fun z => ?_, fun z => ?_, fun z => ?_, fun z => ?_, fun z => ?_, fun z => ?_, fun z => ?_, fun z => ?_, fun z => ?_, fun z => ?_, fun z => ?_, fun z => ?_, fun z => ?_, fun z => ?_, trivial⟩ <;> (dsimp only at z; first | (exfalso; omega) | (subst z; rfl)))]
      · rw [rw_k _ _ x (by refine ⟨fun z => ?_, trivial⟩ <;> (dsimp only at z; first | (exfalso; omega) | (subst z; rfl))), rw_k _ _ x (by refine ⟨fun z => ?_, fun z => ?_, trivial⟩ <;> (dsimp only at z; first | (exfalso; omega) | (subst z; rfl)))]
