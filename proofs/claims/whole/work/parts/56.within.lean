/-! ===== within, the call as a whole ===== -/
/-- what within wants of the bond -/
def kW (F : Nat) (Inv : Nat → mj_IT → mj_LT → Prop) : Prop := kG F Inv ∧
  (∀ j I L I' L', Inv j I L → (∀ a, ¬ (51 ≤ a ∧ a ≤ 54) → I' a = I a) → I' 51 0 = I' 32 0 → spI I' → (∀ a, a ≠ 91 → a ≠ 92 → L' a = L a) → Inv j I' L') ∧
  (∀ j I L, j < 512 → Inv j I L → odQ (L 97) ∧ spI I ∧ (I 32 1 = 0 → ¬ I 51 0 = I 32 0 + 1))
theorem b_within (F : Nat) (hF : 30000 ≤ F) {Inv : Nat → mj_IT → mj_LT → Prop} (hKW : kW F Inv) : pb_within F Inv := by
  intro j hj I L hI x1 x2
  have hK := hKW.1
  obtain ⟨hr, hp, h4, hv, hf⟩ := hK.1.2 j I L hj hI
  obtain ⟨hQ, ht, h9, h17⟩ := hK.2.2 j I L hj hI
  obtain ⟨ho, hsp, hvs⟩ := hKW.2.2 j I L hj hI
  obtain ⟨a, b, hl, b0, hd⟩ := qq_within F (by omega) hp ht (q_few (gQ_go F (by omega) hp h4 ht hv hQ)) hQ.1 (fun z => (hQ.2.2.1 z).1) hF ho hsp hvs x1 x2
  rcases hd with ⟨v, c51, c52, c53, c54, q91, q92, q1, q2, w1, n, fr, na, tg, sh, d, w2, w3⟩ | ⟨k, e, t, o1, o2, o3, o4, q1, q2⟩
  · refine ⟨.inl (v, mj_rows I [(1, I 1), (18, I 18), (19, I 19), (20, I 20), (21, I 21), (22, I 22), (23, I 23), (24, I 24), (25, I 25), (26, I 26), (32, a.1), (33, a.2.1), (34, a.2.2.1), (35, a.2.2.2.1), (36, a.2.2.2.2.1), (37, a.2.2.2.2.2.1), (38, a.2.2.2.2.2.2.1), (39, a.2.2.2.2.2.2.2.1), (40, a.2.2.2.2.2.2.2.2), (51, c51), (52, c52), (53, c53), (54, c54), (70, I 70)], L), v, 0, mj_rows (mj_rows I [(1, I 1), (18, I 18), (19, I 19), (20, I 20), (21, I 21), (22, I 22), (23, I 23), (24, I 24), (25, I 25), (26, I 26), (32, a.1), (33, a.2.1), (34, a.2.2.1), (35, a.2.2.2.1), (36, a.2.2.2.2.1), (37, a.2.2.2.2.2.1), (38, a.2.2.2.2.2.2.1), (39, a.2.2.2.2.2.2.2.1), (40, a.2.2.2.2.2.2.2.2), (51, c51), (52, c52), (53, c53), (54, c54), (70, I 70)]) [(71, b.1), (72, I 72), (73, I 73), (75, I 75), (80, b.2.1), (81, b.2.2.1), (82, b.2.2.2.1), (83, b.2.2.2.2.1), (84, b.2.2.2.2.2.1), (85, b.2.2.2.2.2.2.1), (86, b.2.2.2.2.2.2.2), (87, I 87)], mj_rows (mj_rows (mj_rows I [(1, I 1), (18, I 18), (19, I 19), (20, I 20), (21, I 21), (22, I 22), (23, I 23), (24, I 24), (25, I 25), (26, I 26), (32, a.1), (33, a.2.1), (34, a.2.2.1), (35, a.2.2.2.1), (36, a.2.2.2.2.1), (37, a.2.2.2.2.2.1), (38, a.2.2.2.2.2.2.1), (39, a.2.2.2.2.2.2.2.1), (40, a.2.2.2.2.2.2.2.2), (51, c51), (52, c52), (53, c53), (54, c54), (70, I 70)]) [(71, b.1), (72, I 72), (73, I 73), (75, I 75), (80, b.2.1), (81, b.2.2.1), (82, b.2.2.2.1), (83, b.2.2.2.2.1), (84, b.2.2.2.2.2.1), (85, b.2.2.2.2.2.2.1), (86, b.2.2.2.2.2.2.2), (87, I 87)]) [(71, b.1)], mj_rows (va_up L 98 (vp_updL (L 98) 0 v.toInt64)) [(91, q91), (92, q92), (97, L 97)], mj_rows (va_up L 98 (vp_updL (L 98) 0 v.toInt64)) [(91, q91), (92, q92), (97, L 97)], ?_, ?_, ?_, ?_, rfl, fun _ => rfl, ?_⟩
    · unfold stX10_within; rw [q1]; rfl
    · intro q hq; cases hq
    · show (fnX11_within F (I 71) (I 72) (I 73) (I 75) (I 80) (I 81) (I 82) (I 83) (I 84) (I 85) (I 86) (I 87) (L 91) (L 92) (L 97) x1 x2).map _ = _
      rw [q2]; rfl
    · show some (b.1 0, _, _) = _
      rw [b0]; rfl
    · have hJ : Inv (j + 1) (mj_rows (mj_rows (mj_rows I [(1, I 1), (18, I 18), (19, I 19), (20, I 20), (21, I 21), (22, I 22), (23, I 23), (24, I 24), (25, I 25), (26, I 26), (32, a.1), (33, a.2.1), (34, a.2.2.1), (35, a.2.2.2.1), (36, a.2.2.2.2.1), (37, a.2.2.2.2.2.1), (38, a.2.2.2.2.2.2.1), (39, a.2.2.2.2.2.2.2.1), (40, a.2.2.2.2.2.2.2.2), (70, I 70)]) [(71, b.1), (72, I 72), (73, I 73), (75, I 75), (80, b.2.1), (81, b.2.2.1), (82, b.2.2.2.1), (83, b.2.2.2.2.1), (84, b.2.2.2.2.2.1), (85, b.2.2.2.2.2.2.1), (86, b.2.2.2.2.2.2.2), (87, I 87)]) [(71, b.1)]) (va_up L 98 (vp_updL (L 98) 0 v.toInt64)) := by
        refine hK.2.1 j I L _ _ hj hI ?_ (frL_up L _) hr
        refine fr_go hQ.1 (fun z => (hQ.2.2.1 z).1) hl (fun x x1 x2 x3 => ?_) rfl rfl (fun k hk => rfl)
        rw [rw_k _ _ x (by refine ⟨fun z => ?_, trivial⟩ <;> (dsimp only at z; first | (exfalso; omega) | (subst z; rfl))), rw_k _ _ x (by refine ⟨fun z => ?_, fun z => ?_, fun z => ?_, fun z => ?_, fun z => ?_, fun z => ?_, fun z => ?_, fun z => ?_, fun z => ?_, fun z => ?_, fun z => ?_, fun z => ?_, trivial⟩ <;> (dsimp only at z; first | (exfalso; omega) | (subst z; rfl))), rw_k _ _ x (by refine ⟨fun z => ?_, fun z => ?_, fun z => ?_, fun z => ?_, fun z => ?_, fun z => ?_, fun z => ?_, fun z => ?_, fun z => ?_, fun z => ?_, fun z => ?_, fun z => ?_, fun z => ?_, fun z => ?_, fun z => ?_, fun z => ?_, fun z => ?_, fun z => ?_, fun z => ?_, fun z => ?_, trivial⟩ <;> (dsimp only at z; first | (exfalso; omega) | (subst z; rfl)))]
      refine hKW.2.1 (j + 1) _ _ _ _ hJ (fun x hx => ?_) w1 (fun _ _ => ⟨n, fr, na, tg, sh, d, w2, w3⟩) (fun x y1 y2 => ?_)
      · simp only [mj_rows]
        have n1 : ¬ x = 51 := by omega
        have n2 : ¬ x = 52 := by omega
        have n3 : ¬ x = 53 := by omega
        have n4 : ¬ x = 54 := by omega
        simp only [if_neg n1, if_neg n2, if_neg n3, if_neg n4]
      · rw [rw_k _ _ x (by refine ⟨fun z => ?_, fun z => ?_, fun z => ?_, trivial⟩ <;> (dsimp only at z; first | (exfalso; omega) | (subst z; rfl)))]
  · refine ⟨.inr (k, mj_rows I [(1, I 1), (18, I 18), (19, I 19), (20, I 20), (21, I 21), (22, I 22), (23, I 23), (24, I 24), (25, I 25), (26, I 26), (32, a.1), (33, a.2.1), (34, a.2.2.1), (35, a.2.2.2.1), (36, a.2.2.2.2.1), (37, a.2.2.2.2.2.1), (38, a.2.2.2.2.2.2.1), (39, a.2.2.2.2.2.2.2.1), (40, a.2.2.2.2.2.2.2.2), (51, I 51), (52, I 52), (53, I 53), (54, I 54), (70, upd (I 70) t (I 70 t + 1))], L), 0, e, mj_rows (mj_rows I [(1, I 1), (18, I 18), (19, I 19), (20, I 20), (21, I 21), (22, I 22), (23, I 23), (24, I 24), (25, I 25), (26, I 26), (32, a.1), (33, a.2.1), (34, a.2.2.1), (35, a.2.2.2.1), (36, a.2.2.2.2.1), (37, a.2.2.2.2.2.1), (38, a.2.2.2.2.2.2.1), (39, a.2.2.2.2.2.2.2.1), (40, a.2.2.2.2.2.2.2.2), (51, I 51), (52, I 52), (53, I 53), (54, I 54), (70, upd (I 70) t (I 70 t + 1))]) [(71, upd b.1 0 e), (72, upd (I 72) t (I 72 t + 1)), (73, I 73), (75, I 75), (80, b.2.1), (81, b.2.2.1), (82, b.2.2.2.1), (83, b.2.2.2.2.1), (84, b.2.2.2.2.2.1), (85, b.2.2.2.2.2.2.1), (86, b.2.2.2.2.2.2.2), (87, I 87)], mj_rows (mj_rows (mj_rows I [(1, I 1), (18, I 18), (19, I 19), (20, I 20), (21, I 21), (22, I 22), (23, I 23), (24, I 24), (25, I 25), (26, I 26), (32, a.1), (33, a.2.1), (34, a.2.2.1), (35, a.2.2.2.1), (36, a.2.2.2.2.1), (37, a.2.2.2.2.2.1), (38, a.2.2.2.2.2.2.1), (39, a.2.2.2.2.2.2.2.1), (40, a.2.2.2.2.2.2.2.2), (51, I 51), (52, I 52), (53, I 53), (54, I 54), (70, upd (I 70) t (I 70 t + 1))]) [(71, upd b.1 0 e), (72, upd (I 72) t (I 72 t + 1)), (73, I 73), (75, I 75), (80, b.2.1), (81, b.2.2.1), (82, b.2.2.2.1), (83, b.2.2.2.2.1), (84, b.2.2.2.2.2.1), (85, b.2.2.2.2.2.2.1), (86, b.2.2.2.2.2.2.2), (87, I 87)]) [(71, upd b.1 0 e)], mj_rows L [(91, L 91), (92, L 92), (97, L 97)], mj_rows L [(91, L 91), (92, L 92), (97, L 97)], ?_, ?_, ?_, rfl, ?_, ?_, ?_⟩
    · unfold stX10_within; rw [q1]; rfl
    · intro q hq; cases hq; exact o1
    · show (fnX11_within F (I 71) (I 72) (I 73) (I 75) (I 80) (I 81) (I 82) (I 83) (I 84) (I 85) (I 86) (I 87) (L 91) (L 92) (L 97) x1 x2).map _ = _
      rw [q2]; rfl
    · exact o2.symm
    · intro z; exact absurd (o2.symm.trans z) o3
    · refine hK.2.1 j I L _ _ hj hI ?_ (fun x _ => ?_) (rf_up hr o4)
      · refine fr_go hQ.1 (fun z => (hQ.2.2.1 z).1) hl (fun x x1 x2 x3 => ?_) rfl rfl (fun k hk => upd_ne hk)
        rw [rw_k _ _ x (by refine ⟨fun z => ?_, trivial⟩ <;> (dsimp only at z; first | (exfalso; omega) | (subst z; rfl))), rw_k _ _ x (by refine ⟨fun z => ?_, fun z => ?_, fun z => ?_, fun z => ?_, fun z => ?_, fun z => ?_, fun z => ?_, fun z => ?_, fun z => ?_, fun z => ?_, fun z => ?_, fun z => ?_, trivial⟩ <;> (dsimp only at z; first | (exfalso; omega) | (subst z; rfl))), rw_k _ _ x (by refine ⟨fun z => ?_, fun z => ?_, fun z => ?_, fun z => ?_, fun z => ?_, fun z => ?_, fun z => ?_, fun z => ?_, fun z => ?_, fun z => ?_, fun z => ?_, fun z => ?_, fun z => ?_, fun z => ?_, fun z => ?_, fun z => ?_, fun z => ?_, fun z => ?_, fun z => ?_, fun z => ?_, fun z => ?_, fun z => ?_, fun z => ?_, fun z => ?_, trivial⟩ <;> (dsimp only at z; first | (exfalso; omega) | (subst z; rfl)))]
      · rw [rw_k _ _ x (by refine ⟨fun z => ?_, fun z => ?_, fun z => ?_, trivial⟩ <;> (dsimp only at z; subst z; rfl))]
