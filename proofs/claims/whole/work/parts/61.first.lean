/-! ===== first ===== -/
/-- a change that may be kept -/
def chP (r18 r19 : Nat → Int32) (w s : Int32) : Prop := (vr w ∧ 0 ≤ s.toInt ∧ s.toInt ≤ 9) ∨ (∃ k : Nat, w.toInt = 6 + (k : Int) ∧ (k : Int) < (r18 0).toInt ∧ r19 k = 2 ∧ 0 ≤ s.toInt ∧ s.toInt ≤ 60)
/-- what a change leaves -/
def frC (I I' : mj_IT) : Prop :=
  (∀ a, a ≠ 1 → a ≠ 21 → ¬ (29 ≤ a ∧ a ≤ 32) → ¬ (70 ≤ a ∧ a ≤ 73) → a ≠ 75 → a ≠ 78 → a ≠ 79 → I' a = I a) ∧
  (∀ k, k ≠ 3 → I' 1 k = I 1 k) ∧ (∀ k, k ≠ 1 → I' 32 k = I 32 k) ∧ I' 32 1 = 0 ∧ I' 71 20 = 0 ∧ I' 71 22 = 0 ∧
  (∀ k, k ≠ 0 → k ≠ 17 → k ≠ 20 → k ≠ 22 → I' 71 k = I 71 k) ∧
  pK (I' 18) (I' 19) (I' 20) (I' 21) (I' 22) (I' 23) (I' 24) (I' 25) (I' 26) (I' 73) ∧ vQ (I' 1 3) (I' 75) ∧
  ∃ N, chQ (chP (I' 18) (I' 19)) N (I' 29) (I' 30) (I' 31) (I' 71) (I' 78) (I' 79)
/-- what first, chance and undo want of the bond -/
def kC (Inv : Nat → mj_IT → mj_LT → Prop) : Prop := kQ Inv ∧
  (∀ j I L, j < 512 → Inv j I L → ∃ N, chQ (chP (I 18) (I 19)) N (I 29) (I 30) (I 31) (I 71) (I 78) (I 79)) ∧
  (∀ j I L I' L', j < 512 → Inv j I L → frC I I' → frL L L' → rfQ I' → Inv (j + 1) I' L')
theorem vQ_d {V : Int32} {r75 : Nat → Int32} (h : vQ V r75) {v : Nat} (hv : v < 6) : 0 ≤ (r75 v).toInt ∧ (r75 v).toInt ≤ 9 := by
  rw [h.2 v hv]
  exact dgt_b h.1.1 v
theorem vQ_p {V : Int32} {r75 : Nat → Int32} (h : vQ V r75) {v : Nat} (hv : v < 6) {y : Int32} (hy : 0 ≤ y.toInt ∧ y.toInt ≤ 9) : vQ (pt V v y) (upd r75 v y) := by
  refine ⟨(pt_i h.1 hy v).2, fun u hu => ?_⟩
  apply i_eq.mpr
  rw [pt_d h.1 hy v u hv hu]
  by_cases e : u = v
  · rw [e, upd_at, if_pos rfl]
  · rw [upd_ne e, if_neg e, h.2 u hu]
theorem b_first (F : Nat) (hF : 100 ≤ F) {Inv : Nat → mj_IT → mj_LT → Prop} (hK : kC Inv) : pb_first F Inv := by
  intro j hj I L hI x1 x2
  obtain ⟨hr, hp, h4, hv, hf⟩ := hK.1.2 j I L hj hI
  obtain ⟨N, hN⟩ := hK.2.1 j I L hj hI
  by_cases h : 0 ≤ x1.toInt ∧ x1.toInt < 6
  · by_cases h2 : 0 ≤ x2.toInt ∧ x2.toInt ≤ 9
    · have hi : mj_ib x1 6 = true := mj_ib_of (by omega) (by omega)
      have hc : x1.toNatClampNeg < 6 := by rw [i_cl]; omega
      have hN0 : chQ (chP (I 18) (I 19)) N (I 29) (I 30) (I 31) (upd (I 71) 0 0) (I 78) (I 79) := ⟨hN.1, hN.2.1, (upd_ne (by decide)).trans hN.2.2.1, hN.2.2.2⟩
      obtain ⟨a, b, a1, b1, p1, ⟨N', p2⟩, p3, p4, p5, p6⟩ := s2_keep F hF (x1 := x1) (x2 := I 75 x1.toNatClampNeg) hN0 (Or.inl ⟨h, vQ_d hv hc⟩)
      obtain ⟨v, hvv⟩ : ∃ v, I 75 x1.toNatClampNeg = v := ⟨_, rfl⟩
      have q1 : fnX10_first F (I 1) (I 29) (I 30) (I 31) (I 32) (I 70) x1 x2 = some (.inl (v, upd (I 1) 3 (pt (I 1 3) x1.toNatClampNeg x2), a.1, a.2.1, a.2.2, upd (I 32) 1 0, I 70)) := by
        unfold fnX10_first
        rw [q_var_in F (I 70) h, Option.bind_some, Sum.elim_inl, q_num_in F (I 70) (a := 0) (b := 9) h2, Option.bind_some, Sum.elim_inl, g_get F (I 1 3) (show vr x1 from h), Option.bind_some, ← hv.2 _ hc, a1, Option.bind_some, g_put F (I 1 3) x2 (show vr x1 from h), Option.bind_some, hvv]
        rfl
      have q2 : fnX11_first F (I 71) (I 72) (I 75) (I 78) (I 79) x1 x2 = some (v, b.2.1, I 72, upd (I 75) x1.toNatClampNeg x2, b.2.2.1, b.2.2.2) := by
        unfold fnX11_first
        rw [q_isName_in F h, Option.bind_some, q_fine F upd_at, Option.bind_some, if_neg (show ¬ (1 : Int32) = 0 from by decide), q_lies3_in F (a := 0) (b := 9) h2, Option.bind_some, q_fine F upd_at, Option.bind_some, if_neg (show ¬ (1 : Int32) = 0 from by decide), if_pos hi, if_pos hi]
        show (fnX11_changes F (upd (I 71) 0 0) (I 78) (I 79) x1 (I 75 x1.toNatClampNeg)).bind _ = _
        rw [b1, Option.bind_some, p1, hvv]
      have b0 : b.2.1 0 = 0 := (p6 0 (by decide) (by decide) (by decide)).trans upd_at
      refine ⟨.inl (v, mj_rows I [(1, upd (I 1) 3 (pt (I 1 3) x1.toNatClampNeg x2)), (29, a.1), (30, a.2.1), (31, a.2.2), (32, upd (I 32) 1 0), (70, I 70)], L), v, 0, mj_rows (mj_rows I [(1, upd (I 1) 3 (pt (I 1 3) x1.toNatClampNeg x2)), (29, a.1), (30, a.2.1), (31, a.2.2), (32, upd (I 32) 1 0), (70, I 70)]) [(71, b.2.1), (72, I 72), (75, upd (I 75) x1.toNatClampNeg x2), (78, b.2.2.1), (79, b.2.2.2)], mj_rows (mj_rows (mj_rows I [(1, upd (I 1) 3 (pt (I 1 3) x1.toNatClampNeg x2)), (29, a.1), (30, a.2.1), (31, a.2.2), (32, upd (I 32) 1 0), (70, I 70)]) [(71, b.2.1), (72, I 72), (75, upd (I 75) x1.toNatClampNeg x2), (78, b.2.2.1), (79, b.2.2.2)]) [(71, b.2.1)], va_up L 98 (vp_updL (L 98) 0 v.toInt64), va_up L 98 (vp_updL (L 98) 0 v.toInt64), ?_, ?_, ?_, ?_, rfl, fun _ => rfl, ?_⟩
      · unfold stX10_first; rw [q1]; rfl
      · intro q hq; cases hq
      · show (fnX11_first F (I 71) (I 72) (I 75) (I 78) (I 79) x1 x2).map _ = _
        rw [q2]; rfl
      · show some (b.2.1 0, _, _) = _
        rw [b0]; rfl
      · refine hK.2.2 j I L _ _ hj hI ⟨fun x y1 y2 y3 y4 y5 y6 y7 => ?_, fun k hk => upd_ne hk, fun k hk => upd_ne hk, (show upd (I 32) 1 0 1 = 0 from upd_at), p4, p5, fun k k0 k1 k2 k3 => (p6 k k1 k2 k3).trans (upd_ne k0), hp, ?_, N', p2⟩ (frL_up L _) hr
        · rw [rw_k _ _ x (by refine ⟨fun z => ?_, trivial⟩ <;> (dsimp only at z; first | (exfalso; omega) | (subst z; rfl))), rw_k _ _ x (by refine ⟨fun z => ?_, fun z => ?_, fun z => ?_, fun z => ?_, fun z => ?_, trivial⟩ <;> (dsimp only at z; first | (exfalso; omega) | (subst z; rfl))), rw_k _ _ x (by refine ⟨fun z => ?_, fun z => ?_, fun z => ?_, fun z => ?_, fun z => ?_, fun z => ?_, trivial⟩ <;> (dsimp only at z; first | (exfalso; omega) | (subst z; rfl)))]
        · show vQ (upd (I 1) 3 (pt (I 1 3) x1.toNatClampNeg x2) 3) (upd (I 75) x1.toNatClampNeg x2)
          rw [upd_at]
          exact vQ_p hv hc h2
    · have q1 : fnX10_first F (I 1) (I 29) (I 30) (I 31) (I 32) (I 70) x1 x2 = some (.inr (1, I 1, I 29, I 30, I 31, I 32, upd (I 70) 1 (I 70 1 + 1))) := by
        unfold fnX10_first
        rw [q_var_in F (I 70) h, Option.bind_some, Sum.elim_inl, q_num_out F (I 70) (a := 0) (b := 9) h2]
        rfl
      have q2 : fnX11_first F (I 71) (I 72) (I 75) (I 78) (I 79) x1 x2 = some (0, upd (upd (I 71) 0 0) 0 2, upd (I 72) 1 (I 72 1 + 1), I 75, I 78, I 79) := by
        unfold fnX11_first
        rw [q_isName_in F h, Option.bind_some, q_fine F upd_at, Option.bind_some, if_neg (show ¬ (1 : Int32) = 0 from by decide), q_lies3_out F (a := 0) (b := 9) h2, Option.bind_some, q_fine0 F upd_at (show ¬ (2 : Int32) = 0 from by decide) (by decide), Option.bind_some, if_pos rfl]
        rfl
      refine ⟨.inr (1, mj_rows I [(1, I 1), (29, I 29), (30, I 30), (31, I 31), (32, I 32), (70, upd (I 70) 1 (I 70 1 + 1))], L), 0, 2, mj_rows (mj_rows I [(1, I 1), (29, I 29), (30, I 30), (31, I 31), (32, I 32), (70, upd (I 70) 1 (I 70 1 + 1))]) [(71, upd (upd (I 71) 0 0) 0 2), (72, upd (I 72) 1 (I 72 1 + 1)), (75, I 75), (78, I 78), (79, I 79)], mj_rows (mj_rows (mj_rows I [(1, I 1), (29, I 29), (30, I 30), (31, I 31), (32, I 32), (70, upd (I 70) 1 (I 70 1 + 1))]) [(71, upd (upd (I 71) 0 0) 0 2), (72, upd (I 72) 1 (I 72 1 + 1)), (75, I 75), (78, I 78), (79, I 79)]) [(71, upd (upd (I 71) 0 0) 0 2)], L, L, ?_, ?_, ?_, rfl, rfl, ?_, ?_⟩
      · unfold stX10_first; rw [q1]; rfl
      · intro q hq; cases hq; rfl
      · show (fnX11_first F (I 71) (I 72) (I 75) (I 78) (I 79) x1 x2).map _ = _
        rw [q2]; rfl
      · intro z; exact absurd z (show ¬ (2 : Int32) = 0 from by decide)
      · refine hK.1.1 j I L _ _ hj hI ⟨fun x y0 y1 y2 => ?_, fun k hk => ?_⟩ (fun _ _ => rfl) (rf_up hr (by decide))
        · rw [rw_k _ _ x (by refine ⟨fun z => ?_, trivial⟩ <;> (dsimp only at z; first | (exfalso; omega) | (subst z; rfl))), rw_k _ _ x (by refine ⟨fun z => ?_, fun z => ?_, fun z => ?_, fun z => ?_, fun z => ?_, trivial⟩ <;> (dsimp only at z; first | (exfalso; omega) | (subst z; rfl))), rw_k _ _ x (by refine ⟨fun z => ?_, fun z => ?_, fun z => ?_, fun z => ?_, fun z => ?_, fun z => ?_, trivial⟩ <;> (dsimp only at z; first | (exfalso; omega) | (subst z; rfl)))]
        · show upd (upd (I 71) 0 0) 0 2 k = I 71 k
          rw [upd_ne hk, upd_ne hk]
  · have q1 : fnX10_first F (I 1) (I 29) (I 30) (I 31) (I 32) (I 70) x1 x2 = some (.inr (0, I 1, I 29, I 30, I 31, I 32, upd (I 70) 0 (I 70 0 + 1))) := by
      unfold fnX10_first
      rw [q_var_out F (I 70) h]
      rfl
    have q2 : fnX11_first F (I 71) (I 72) (I 75) (I 78) (I 79) x1 x2 = some (0, upd (upd (I 71) 0 0) 0 1, upd (I 72) 0 (I 72 0 + 1), I 75, I 78, I 79) := by
      unfold fnX11_first
      rw [q_isName_out F h, Option.bind_some, q_fine0 F upd_at (show ¬ (1 : Int32) = 0 from by decide) (by decide), Option.bind_some, if_pos rfl]
      rfl
    refine ⟨.inr (0, mj_rows I [(1, I 1), (29, I 29), (30, I 30), (31, I 31), (32, I 32), (70, upd (I 70) 0 (I 70 0 + 1))], L), 0, 1, mj_rows (mj_rows I [(1, I 1), (29, I 29), (30, I 30), (31, I 31), (32, I 32), (70, upd (I 70) 0 (I 70 0 + 1))]) [(71, upd (upd (I 71) 0 0) 0 1), (72, upd (I 72) 0 (I 72 0 + 1)), (75, I 75), (78, I 78), (79, I 79)], mj_rows (mj_rows (mj_rows I [(1, I 1), (29, I 29), (30, I 30), (31, I 31), (32, I 32), (70, upd (I 70) 0 (I 70 0 + 1))]) [(71, upd (upd (I 71) 0 0) 0 1), (72, upd (I 72) 0 (I 72 0 + 1)), (75, I 75), (78, I 78), (79, I 79)]) [(71, upd (upd (I 71) 0 0) 0 1)], L, L, ?_, ?_, ?_, rfl, rfl, ?_, ?_⟩
    · unfold stX10_first; rw [q1]; rfl
    · intro q hq; cases hq; rfl
    · show (fnX11_first F (I 71) (I 72) (I 75) (I 78) (I 79) x1 x2).map _ = _
      rw [q2]; rfl
    · intro z; exact absurd z (show ¬ (1 : Int32) = 0 from by decide)
    · refine hK.1.1 j I L _ _ hj hI ⟨fun x y0 y1 y2 => ?_, fun k hk => ?_⟩ (fun _ _ => rfl) (rf_up hr (by decide))
      · rw [rw_k _ _ x (by refine ⟨fun z => ?_, trivial⟩ <;> (dsimp only at z; first | (exfalso; omega) | (subst z; rfl))), rw_k _ _ x (by refine ⟨fun z => ?_, fun z => ?_, fun z => ?_, fun z => ?_, fun z => ?_, trivial⟩ <;> (dsimp only at z; first | (exfalso; omega) | (subst z; rfl))), rw_k _ _ x (by refine ⟨fun z => ?_, fun z => ?_, fun z => ?_, fun z => ?_, fun z => ?_, fun z => ?_, trivial⟩ <;> (dsimp only at z; first | (exfalso; omega) | (subst z; rfl)))]
      · show upd (upd (I 71) 0 0) 0 1 k = I 71 k
        rw [upd_ne hk, upd_ne hk]
