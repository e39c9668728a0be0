/-! ===== feed ===== -/
/-- what feed wants of the bond -/
def kF (Inv : Nat → mj_IT → mj_LT → Prop) : Prop :=
  (∀ j I L, j < 512 → Inv j I L → ∃ N, tpQ N (I 2) (I 3) (I 71) (I 76)) ∧
  (∀ j I L I', j < 512 → Inv j I L → (∀ a, a ≠ 2 → a ≠ 3 → a ≠ 71 → a ≠ 76 → I' a = I a) → (∀ k, k ≠ 0 → I' 2 k = I 2 k) → (∀ k, k ≠ 0 → k ≠ 9 → I' 71 k = I 71 k) → (∃ N, tpQ N (I' 2) (I' 3) (I' 71) (I' 76)) → Inv (j + 1) I' L)
theorem s2_feed (F : Nat) (hF : 100 ≤ F) {N : Nat} {r2 r3 r71 r76 : Nat → Int32} (h : tpQ N r2 r3 r71 r76) (x1 x2 x3 x4 x5 : Int32) : sp2 (fnX10_feed F r2 r3 x1 x2 x3 x4 x5) (fnX11_feed F r71 r76 x1 x2 x3 x4 x5) (fun a b => a.1 = b.1 ∧ (∀ k, k ≠ 0 → a.2.1 k = r2 k) ∧ (∀ k, k ≠ 0 → k ≠ 9 → b.2.1 k = r71 k) ∧ ∃ N, tpQ N a.2.1 a.2.2 b.2.1 b.2.2) := by
  have e20 : (20 : Int32).toInt = 20 := rfl
  have e400 : (400 : Int32).toInt = 400 := rfl
  obtain ⟨h1, h2, h3, h4⟩ := id h
  have h0 : tpQ N r2 r3 (upd r71 0 0) r76 := ⟨h1, h2, (upd_ne (by decide)).trans h3, h4⟩
  have es : (r2 0 + 20).toInt = (N : Int) + 20 := by rw [i_add (by omega) (by omega), h2, e20]
  unfold fnX10_feed fnX11_feed
  rw [h3]
  by_cases z : r2 0 + 20 ≤ 400
  · have z1 := i_le.mp z
    have hN : N + 20 ≤ 400 := by omega
    rw [if_pos z, if_pos z]
    refine sp2_bind (s2_put F hF (by omega) h0 x1) (fun a1 b1 q1 => ?_)
    refine sp2_bind (s2_put F hF (by omega) q1.1 x2) (fun a2 b2 q2 => ?_)
    refine sp2_bind (s2_put F hF (by omega) q2.1 x3) (fun a3 b3 q3 => ?_)
    refine sp2_bind (s2_put F hF (by omega) q3.1 x4) (fun a4 b4 q4 => ?_)
    refine sp2_bind (s2_put F hF (by omega) q4.1 x5) (fun a5 b5 q5 => ?_)
    refine sp2_some ⟨q5.1.2.2.1.symm, fun k hk => ?_, fun k hk hk2 => ?_, _, q5.1⟩
    · exact (q5.2.1 k hk).trans ((q4.2.1 k hk).trans ((q3.2.1 k hk).trans ((q2.2.1 k hk).trans (q1.2.1 k hk))))
    · exact (q5.2.2 k hk2).trans ((q4.2.2 k hk2).trans ((q3.2.2 k hk2).trans ((q2.2.2 k hk2).trans ((q1.2.2 k hk2).trans (upd_ne hk)))))
  · rw [if_neg z, if_neg z]
    exact sp2_some ⟨rfl, fun _ _ => rfl, fun k hk _ => upd_ne hk, N, h0⟩
theorem b_feed (F : Nat) (hF : 100 ≤ F) {Inv : Nat → mj_IT → mj_LT → Prop} (hK : kF Inv) : pb_feed F Inv := by
  intro j hj I L hI x1 x2 x3 x4 x5
  obtain ⟨N, hN⟩ := hK.1 j I L hj hI
  obtain ⟨⟨v, a1, a2⟩, ⟨w, b1, b2⟩, q1, q2, q3, q4, q5, q6⟩ := s2_feed F hF hN x1 x2 x3 x4 x5
  dsimp only at q3 q4 q5 q6
  subst q3
  refine ⟨v, mj_rows I [(2, a1), (3, a2)], mj_rows (mj_rows I [(2, a1), (3, a2)]) [(71, b1), (76, b2)], L, L, ?_, ?_, ?_⟩
  · unfold stX10_feed; rw [q1]; rfl
  · show (fnX11_feed F (I 71) (I 76) x1 x2 x3 x4 x5).map _ = _
    rw [q2]; rfl
  · refine hK.2 j I L _ hj hI (fun x y1 y2 y3 y4 => ?_) q4 q5 q6
    rw [rw_ne _ _ x (by simp [y3, y4]), rw_ne _ _ x (by simp [y1, y2])]
