/-! ===== visits ===== -/
theorem qq_visits (F : Nat) (hF : 50000 ≤ F) {I : mj_IT} {L : mj_LT} (hQ : gQ F I) (hE : eF I L) (ht : tens (I 87)) (hw : ∃ a b, lQ I a b ∧ exG F I = some a ∧ lyG F I (rL I (upd (I 71) 0 0)) = some b ∧ b.1 0 = 0 ∧ ((gX I a b ∧ a.1 6 = 0 ∧ b.1 21 = 0 ∧ nsG F I = some (.inl (a.1, a.2.1, a.2.2.1, a.2.2.2.1, a.2.2.2.2.1, a.2.2.2.2.2.1, a.2.2.2.2.2.2.1, a.2.2.2.2.2.2.2.1, a.2.2.2.2.2.2.2.2, I 70)) ∧ fwG F I = some (1, b.1, I 72, b.2)) ∨ (a.1 6 = 1 ∧ b.1 21 = 1 ∧ nsG F I = some (.inr (2, a.1, a.2.1, a.2.2.1, a.2.2.2.1, a.2.2.2.2.1, a.2.2.2.2.2.1, a.2.2.2.2.2.2.1, a.2.2.2.2.2.2.2.1, a.2.2.2.2.2.2.2.2, upd (I 70) 2 (I 70 2 + 1))) ∧ fwG F I = some (0, upd b.1 0 1, upd (I 72) 2 (I 72 2 + 1), b.2)))) (x1 x2 : Int32) :
    ∃ (a : T9) (b : T8), lQ I a b ∧ b.1 0 = 0 ∧ ((∃ (v : Int32) (c41 c42 c43 c44 c45 c46 c50 f c88 : Nat → Int32) (q89 q90 : Nat → Int64), fnX10_visits F (I 1) (I 18) (I 19) (I 20) (I 21) (I 22) (I 23) (I 24) (I 25) (I 26) (I 32) (I 33) (I 34) (I 35) (I 36) (I 37) (I 38) (I 39) (I 40) (I 41) (I 42) (I 43) (I 44) (I 45) (I 46) (I 50) (I 70) x1 x2 = some (.inl (v, a.1, a.2.1, a.2.2.1, a.2.2.2.1, a.2.2.2.2.1, a.2.2.2.2.2.1, a.2.2.2.2.2.2.1, a.2.2.2.2.2.2.2.1, a.2.2.2.2.2.2.2.2, c41, c42, c43, c44, c45, c46, c50, I 70)) ∧ fnX11_visits F (I 71) (I 72) (I 73) (I 75) (I 80) (I 81) (I 82) (I 83) (I 84) (I 85) (I 86) (I 87) (I 88) (L 89) (L 90) (L 97) x1 x2 = some (v, f, I 72, b.2.1, b.2.2.1, b.2.2.2.1, b.2.2.2.2.1, b.2.2.2.2.2.1, b.2.2.2.2.2.2.1, b.2.2.2.2.2.2.2, c88, q89, q90) ∧ sP (a.1 2).toInt.toNat a.1 a.2.1 b.1 c41 c42 f q90) ∨ (∃ v : Int32, fnX10_visits F (I 1) (I 18) (I 19) (I 20) (I 21) (I 22) (I 23) (I 24) (I 25) (I 26) (I 32) (I 33) (I 34) (I 35) (I 36) (I 37) (I 38) (I 39) (I 40) (I 41) (I 42) (I 43) (I 44) (I 45) (I 46) (I 50) (I 70) x1 x2 = some (.inl (v, a.1, a.2.1, a.2.2.1, a.2.2.2.1, a.2.2.2.2.1, a.2.2.2.2.2.1, a.2.2.2.2.2.2.1, a.2.2.2.2.2.2.2.1, a.2.2.2.2.2.2.2.2, I 41, I 42, I 43, I 44, I 45, I 46, I 50, I 70)) ∧ fnX11_visits F (I 71) (I 72) (I 73) (I 75) (I 80) (I 81) (I 82) (I 83) (I 84) (I 85) (I 86) (I 87) (I 88) (L 89) (L 90) (L 97) x1 x2 = some (v, b.1, I 72, b.2.1, b.2.2.1, b.2.2.2.1, b.2.2.2.2.1, b.2.2.2.2.2.1, b.2.2.2.2.2.2.1, b.2.2.2.2.2.2.2, I 88, L 89, L 90)) ∨ (∃ (k : Nat) (e : Int32) (t : Nat), ok_visits k = true ∧ wk_visits k = e ∧ ¬ e = 0 ∧ t < 3 ∧ fnX10_visits F (I 1) (I 18) (I 19) (I 20) (I 21) (I 22) (I 23) (I 24) (I 25) (I 26) (I 32) (I 33) (I 34) (I 35) (I 36) (I 37) (I 38) (I 39) (I 40) (I 41) (I 42) (I 43) (I 44) (I 45) (I 46) (I 50) (I 70) x1 x2 = some (.inr (k, a.1, a.2.1, a.2.2.1, a.2.2.2.1, a.2.2.2.2.1, a.2.2.2.2.2.1, a.2.2.2.2.2.2.1, a.2.2.2.2.2.2.2.1, a.2.2.2.2.2.2.2.2, I 41, I 42, I 43, I 44, I 45, I 46, I 50, upd (I 70) t (I 70 t + 1))) ∧ fnX11_visits F (I 71) (I 72) (I 73) (I 75) (I 80) (I 81) (I 82) (I 83) (I 84) (I 85) (I 86) (I 87) (I 88) (L 89) (L 90) (L 97) x1 x2 = some (0, upd b.1 0 e, upd (I 72) t (I 72 t + 1), b.2.1, b.2.2.1, b.2.2.2.1, b.2.2.2.2.1, b.2.2.2.2.2.1, b.2.2.2.2.2.2.1, b.2.2.2.2.2.2.2, I 88, L 89, L 90))) := by
  obtain ⟨a, b, hl, ha, hb, b0, hd⟩ := hw
  refine ⟨a, b, hl, b0, ?_⟩
  have Z0 : (0 : Int32) = 0 := rfl
  have N1 : ¬ (1 : Int32) = 0 := by decide
  have N2 : ¬ (2 : Int32) = 0 := by decide
  have N3 : ¬ (3 : Int32) = 0 := by decide
  have E0 : (0 : Int32).toNatClampNeg = 0 := rfl
  have E1 : (1 : Int32).toNatClampNeg = 1 := rfl
  have E2 : (2 : Int32).toNatClampNeg = 2 := rfl
  rcases hd with ⟨⟨n, fr, na, tg, sh, hG0⟩, m1, m2, hn, hf⟩ | ⟨m1, m2, hn, hf⟩
  · unfold nsG at hn
    unfold fwG at hf
    have hG : gGab I a b n fr na tg sh := hG0
    have hnn : (a.1 2).toInt.toNat = n := by have := hG0.1.2.2.1; omega
    rw [hnn]
    by_cases h0 : 0 ≤ x1.toInt ∧ x1.toInt < (n : Int)
    · have k0 := q_sta_in F a.1 (I 70) (x := x1) (by rw [hG0.1.2.2.1]; exact h0)
      have l0 := q_isSta_in F (r71 := b.1) (x := x1) (by rw [hG0.1.2.2.2]; have := hG0.1.2.1; omega) (by rw [hG0.1.2.2.2]; exact h0)
      have f0 := q_fine F (r72 := I 72) (c := 2) (k := 0) b0
      by_cases h1 : 0 ≤ x2.toInt ∧ x2.toInt ≤ 2
      · have k1 := q_form_in F (I 70) h1
        have l1 := q_isForm_in F h1
        have f1 := q_fine F (r72 := I 72) (c := 3) (k := 1) b0
        obtain ⟨s, hs⟩ : ∃ s, x1.toNatClampNeg = s := ⟨_, rfl⟩
        have hsn : s < n := by rw [← hs, i_cl]; omega
        have hn2 := hG0.1.2.1
        have hi : mj_ib x1 200 = true := mj_ib_of (by omega) (by omega)
        have g12 := (hG0.2.2.2.2.2.2.2.2.2.2.2 s hsn).2.2.2
        by_cases hq : a.2.2.2.2.1 s = 0
        · have hq' : ¬ b.2.2.2.2.2.2.2 s = 0 := g12.mpr hq
          obtain ⟨oc, or_, s1, s2, s3, s4, s5, s6⟩ := q_solve F hF hQ hE hl hG
          by_cases hz : oc.1 = 0
          · have hz' : or_.1 = 0 := by rw [← s3]; exact hz
            left
            refine ⟨-3, oc.2.1, oc.2.2.1, oc.2.2.2.1, oc.2.2.2.2.1, oc.2.2.2.2.2.1, oc.2.2.2.2.2.2.1, oc.2.2.2.2.2.2.2, or_.2.1, or_.2.2.1, or_.2.2.2.1, or_.2.2.2.2, ?_, ?_, s6⟩
            · simp only [fnX10_visits, hn, k0, k1, hs, if_pos hi, if_pos hq, s1, if_pos hz, Option.bind_some, Sum.elim_inl, Sum.elim_inr]
            · simp only [fnX11_visits, hf, if_neg N1, l0, f0, l1, f1, hs, if_pos hi, if_neg hq', s2, if_pos hz', Option.bind_some, Sum.elim_inl, Sum.elim_inr]
          · have hz' : ¬ or_.1 = 0 := by rw [← s3]; exact hz
            have hnu : nuQ n a b oc.2.1 oc.2.2.1 or_.2.1 or_.2.2.2.2 := by
              rcases s6.2.2.2.2 with q | q
              · rw [s5] at q; exact absurd q hz
              · exact ⟨q.2.1, q.2.2, s6.2.2.1⟩
            obtain ⟨v, y1, y2⟩ := v_form F (by omega) (hnu.2.1 s hsn).2 (hnu.2.1 s hsn).1 x2
            left
            refine ⟨v, oc.2.1, oc.2.2.1, oc.2.2.2.1, oc.2.2.2.2.1, oc.2.2.2.2.2.1, oc.2.2.2.2.2.2.1, oc.2.2.2.2.2.2.2, or_.2.1, or_.2.2.1, or_.2.2.2.1, or_.2.2.2.2, ?_, ?_, s6⟩
            · simp only [fnX10_visits, hn, k0, k1, hs, if_pos hi, if_pos hq, s1, if_neg hz, if_pos hi, y1, Option.bind_some, Sum.elim_inl, Sum.elim_inr]
            · simp only [fnX11_visits, hf, if_neg N1, l0, f0, l1, f1, hs, if_pos hi, if_neg hq', s2, if_neg hz', if_pos hi, y2, Option.bind_some, Sum.elim_inl, Sum.elim_inr]
        · have hq' : b.2.2.2.2.2.2.2 s = 0 := Classical.byContradiction (fun z => hq (g12.mp z))
          right; left
          refine ⟨-2, ?_, ?_⟩
          · simp only [fnX10_visits, hn, k0, k1, hs, if_pos hi, if_neg hq, Option.bind_some, Sum.elim_inl, Sum.elim_inr]
          · simp only [fnX11_visits, hf, if_neg N1, eq_self, if_true, l0, f0, l1, f1, hs, if_pos hi, if_pos hq', Option.bind_some, Sum.elim_inl, Sum.elim_inr]
      · have k1 := q_form_out F (I 70) h1
        have l1 := q_isForm_out F h1
        have f1 := q_fine0 F (r72 := I 72) (c := 3) (k := 1) b0 N3 (by decide)
        right; right
        refine ⟨1, 3, 1, rfl, rfl, by decide, by decide, ?_, ?_⟩
        · simp only [fnX10_visits, hn, k0, k1, Option.bind_some, Sum.elim_inl, Sum.elim_inr]
        · simp only [fnX11_visits, hf, if_neg N1, eq_self, if_true, l0, f0, l1, f1, E0, E1, E2, Option.bind_some, Sum.elim_inl, Sum.elim_inr]
    · have k0 := q_sta_out F a.1 (I 70) (x := x1) (by rw [hG0.1.2.2.1]; exact h0)
      have l0 := q_isSta_out F (r71 := b.1) (x := x1) (by rw [hG0.1.2.2.2]; have := hG0.1.2.1; omega) (by rw [hG0.1.2.2.2]; exact h0)
      have f0 := q_fine0 F (r72 := I 72) (c := 2) (k := 0) b0 N2 (by decide)
      right; right
      refine ⟨0, 2, 0, rfl, rfl, by decide, by decide, ?_, ?_⟩
      · simp only [fnX10_visits, hn, k0, Option.bind_some, Sum.elim_inl, Sum.elim_inr]
      · simp only [fnX11_visits, hf, if_neg N1, eq_self, if_true, l0, f0, E0, E1, E2, Option.bind_some, Sum.elim_inl, Sum.elim_inr]
  · unfold nsG at hn
    unfold fwG at hf
    right; right
    refine ⟨2, 1, 2, rfl, rfl, by decide, by decide, ?_, ?_⟩
    · simp only [fnX10_visits, hn, Option.bind_some, Sum.elim_inl, Sum.elim_inr]
    · simp only [fnX11_visits, hf, eq_self, if_true, Option.bind_some, Sum.elim_inl, Sum.elim_inr]
theorem b_visits (F : Nat) (hF : 50000 ≤ F) {Inv : Nat → mj_IT → mj_LT → Prop} (hKE : kE F Inv) : pb_visits F Inv := by
  intro j hj I L hI x1 x2
  have hK := hKE.1
  obtain ⟨hr, hp, h4, hv, hf⟩ := hK.1.2 j I L hj hI
  obtain ⟨hQ, ht, h9, h17⟩ := hK.2.2 j I L hj hI
  have hE : eF I L := hKE.2.2 j I L hj hI
  obtain ⟨a, b, hl, b0, hd⟩ := qq_visits F hF hQ hE ht (q_few (gQ_go F (by omega) hp h4 ht hv hQ)) _ _
  rcases hd with ⟨v, c41, c42, c43, c44, c45, c46, c50, f, c88, q89, q90, q1, q2, w1, w2, w3, w4⟩ | ⟨v, q1, q2⟩ | ⟨k, e, t, o1, o2, o3, o4, q1, q2⟩
  · have f0 : f 0 = 0 := (w3 0 (by decide) (by decide) (by decide)).trans b0
    refine ⟨.inl (v, mj_rows I [(1, I 1), (18, I 18), (19, I 19), (20, I 20), (21, I 21), (22, I 22), (23, I 23), (24, I 24), (25, I 25), (26, I 26), (32, a.1), (33, a.2.1), (34, a.2.2.1), (35, a.2.2.2.1), (36, a.2.2.2.2.1), (37, a.2.2.2.2.2.1), (38, a.2.2.2.2.2.2.1), (39, a.2.2.2.2.2.2.2.1), (40, a.2.2.2.2.2.2.2.2), (41, c41), (42, c42), (43, c43), (44, c44), (45, c45), (46, c46), (50, c50), (70, I 70)], L), v, 0, mj_rows (mj_rows I [(1, I 1), (18, I 18), (19, I 19), (20, I 20), (21, I 21), (22, I 22), (23, I 23), (24, I 24), (25, I 25), (26, I 26), (32, a.1), (33, a.2.1), (34, a.2.2.1), (35, a.2.2.2.1), (36, a.2.2.2.2.1), (37, a.2.2.2.2.2.1), (38, a.2.2.2.2.2.2.1), (39, a.2.2.2.2.2.2.2.1), (40, a.2.2.2.2.2.2.2.2), (41, c41), (42, c42), (43, c43), (44, c44), (45, c45), (46, c46), (50, c50), (70, I 70)]) [(71, f), (72, I 72), (73, I 73), (75, I 75), (80, b.2.1), (81, b.2.2.1), (82, b.2.2.2.1), (83, b.2.2.2.2.1), (84, b.2.2.2.2.2.1), (85, b.2.2.2.2.2.2.1), (86, b.2.2.2.2.2.2.2), (87, I 87), (88, c88)], mj_rows (mj_rows (mj_rows I [(1, I 1), (18, I 18), (19, I 19), (20, I 20), (21, I 21), (22, I 22), (23, I 23), (24, I 24), (25, I 25), (26, I 26), (32, a.1), (33, a.2.1), (34, a.2.2.1), (35, a.2.2.2.1), (36, a.2.2.2.2.1), (37, a.2.2.2.2.2.1), (38, a.2.2.2.2.2.2.1), (39, a.2.2.2.2.2.2.2.1), (40, a.2.2.2.2.2.2.2.2), (41, c41), (42, c42), (43, c43), (44, c44), (45, c45), (46, c46), (50, c50), (70, I 70)]) [(71, f), (72, I 72), (73, I 73), (75, I 75), (80, b.2.1), (81, b.2.2.1), (82, b.2.2.2.1), (83, b.2.2.2.2.1), (84, b.2.2.2.2.2.1), (85, b.2.2.2.2.2.2.1), (86, b.2.2.2.2.2.2.2), (87, I 87), (88, c88)]) [(71, f)], mj_rows (va_up L 98 (vp_updL (L 98) 0 v.toInt64)) [(89, q89), (90, q90), (97, L 97)], mj_rows (va_up L 98 (vp_updL (L 98) 0 v.toInt64)) [(89, q89), (90, q90), (97, L 97)], ?_, ?_, ?_, ?_, rfl, fun _ => rfl, ?_⟩
    · unfold stX10_visits; rw [q1]; rfl
    · intro q hq; cases hq
    · show (fnX11_visits F (I 71) (I 72) (I 73) (I 75) (I 80) (I 81) (I 82) (I 83) (I 84) (I 85) (I 86) (I 87) (I 88) (L 89) (L 90) (L 97) x1 x2).map _ = _
      rw [q2]; rfl
    · show some (f 0, _, _) = _
      rw [f0]; rfl
    · refine eG_inv hKE hj hI hQ hl (fun x x1 x2 x3 x4 => ?_) rfl rfl hr (fun k k0 k1 k2 k3 => w3 k k1 k2 k3) w1 w2 w4 (fun x x1 x2 x3 => ?_)
      · rw [rw_k _ _ x (by refine ⟨fun z => ?_, trivial⟩ <;> (dsimp only at z; first | (exfalso; omega) | (subst z; rfl))), rw_k _ _ x (by refine ⟨fun z => ?_, fun z => ?_, fun z => ?_, fun z => ?_, fun z => ?_, fun z => ?_, fun z => ?_, fun z => ?_, fun z => ?_, fun z => ?_, fun z => ?_, fun z => ?_, fun z => ?_, trivial⟩ <;> (dsimp only at z; first | (exfalso; omega) | (subst z; rfl))), rw_k _ _ x (by refine ⟨fun z => ?_, fun z => ?_, fun z => ?_, fun z => ?_, fun z => ?_, fun z => ?_, fun z => ?_, fun z => ?_, fun z => ?_, fun z => ?_, fun z => ?_, fun z => ?_, fun z => ?_, fun z => ?_, fun z => ?_, fun z => ?_, fun z => ?_, fun z => ?_, fun z => ?_, fun z => ?_, fun z => ?_, fun z => ?_, fun z => ?_, fun z => ?_, fun z => ?_, fun z => ?_, fun z => ?_, trivial⟩ <;> (dsimp only at z; first | (exfalso; omega) | (subst z; rfl)))]
      · rw [rw_k _ _ x (by refine ⟨fun z => ?_, fun z => ?_, fun z => ?_, trivial⟩ <;> (dsimp only at z; first | (exfalso; omega) | (subst z; rfl)))]
        exact frL_up L _ x x3
  · refine ⟨.inl (v, mj_rows I [(1, I 1), (18, I 18), (19, I 19), (20, I 20), (21, I 21), (22, I 22), (23, I 23), (24, I 24), (25, I 25), (26, I 26), (32, a.1), (33, a.2.1), (34, a.2.2.1), (35, a.2.2.2.1), (36, a.2.2.2.2.1), (37, a.2.2.2.2.2.1), (38, a.2.2.2.2.2.2.1), (39, a.2.2.2.2.2.2.2.1), (40, a.2.2.2.2.2.2.2.2), (41, I 41), (42, I 42), (43, I 43), (44, I 44), (45, I 45), (46, I 46), (50, I 50), (70, I 70)], L), v, 0, mj_rows (mj_rows I [(1, I 1), (18, I 18), (19, I 19), (20, I 20), (21, I 21), (22, I 22), (23, I 23), (24, I 24), (25, I 25), (26, I 26), (32, a.1), (33, a.2.1), (34, a.2.2.1), (35, a.2.2.2.1), (36, a.2.2.2.2.1), (37, a.2.2.2.2.2.1), (38, a.2.2.2.2.2.2.1), (39, a.2.2.2.2.2.2.2.1), (40, a.2.2.2.2.2.2.2.2), (41, I 41), (42, I 42), (43, I 43), (44, I 44), (45, I 45), (46, I 46), (50, I 50), (70, I 70)]) [(71, b.1), (72, I 72), (73, I 73), (75, I 75), (80, b.2.1), (81, b.2.2.1), (82, b.2.2.2.1), (83, b.2.2.2.2.1), (84, b.2.2.2.2.2.1), (85, b.2.2.2.2.2.2.1), (86, b.2.2.2.2.2.2.2), (87, I 87), (88, I 88)], mj_rows (mj_rows (mj_rows I [(1, I 1), (18, I 18), (19, I 19), (20, I 20), (21, I 21), (22, I 22), (23, I 23), (24, I 24), (25, I 25), (26, I 26), (32, a.1), (33, a.2.1), (34, a.2.2.1), (35, a.2.2.2.1), (36, a.2.2.2.2.1), (37, a.2.2.2.2.2.1), (38, a.2.2.2.2.2.2.1), (39, a.2.2.2.2.2.2.2.1), (40, a.2.2.2.2.2.2.2.2), (41, I 41), (42, I 42), (43, I 43), (44, I 44), (45, I 45), (46, I 46), (50, I 50), (70, I 70)]) [(71, b.1), (72, I 72), (73, I 73), (75, I 75), (80, b.2.1), (81, b.2.2.1), (82, b.2.2.2.1), (83, b.2.2.2.2.1), (84, b.2.2.2.2.2.1), (85, b.2.2.2.2.2.2.1), (86, b.2.2.2.2.2.2.2), (87, I 87), (88, I 88)]) [(71, b.1)], mj_rows (va_up L 98 (vp_updL (L 98) 0 v.toInt64)) [(89, L 89), (90, L 90), (97, L 97)], mj_rows (va_up L 98 (vp_updL (L 98) 0 v.toInt64)) [(89, L 89), (90, L 90), (97, L 97)], ?_, ?_, ?_, ?_, rfl, fun _ => rfl, ?_⟩
    · unfold stX10_visits; rw [q1]; rfl
    · intro q hq; cases hq
    · show (fnX11_visits F (I 71) (I 72) (I 73) (I 75) (I 80) (I 81) (I 82) (I 83) (I 84) (I 85) (I 86) (I 87) (I 88) (L 89) (L 90) (L 97) x1 x2).map _ = _
      rw [q2]; rfl
    · show some (b.1 0, _, _) = _
      rw [b0]; rfl
    · refine gG_inv hK hj hI hQ hl (fun x x1 x2 x3 => ?_) rfl rfl (fun k k0 => rfl) hr (fun x x3 => ?_)
      · rw [rw_k _ _ x (by refine ⟨fun z => ?_, trivial⟩ <;> (dsimp only at z; first | (exfalso; omega) | (subst z; rfl))), rw_k _ _ x (by refine ⟨fun z => ?_, fun z => ?_, fun z => ?_, fun z => ?_, fun z => ?_, fun z => ?_, fun z => ?_, fun z => ?_, fun z => ?_, fun z => ?_, fun z => ?_, fun z => ?_, fun z => ?_, trivial⟩ <;> (dsimp only at z; first | (exfalso; omega) | (subst z; rfl))), rw_k _ _ x (by refine ⟨fun z => ?_, fun z => ?_, fun z => ?_, fun z => ?_, fun z => ?_, fun z => ?_, fun z => ?_, fun z => ?_, fun z => ?_, fun z => ?_, fun z => ?_, fun z => ?_, fun z => ?_, fun z => ?_, fun z => ?_, fun z => ?_, fun z => ?_, fun z => ?_, fun z => ?_, fun z => ?_, fun z => ?_, fun z => ?_, fun z => ?_, fun z => ?_, fun z => ?_, fun z => ?_, fun z => ?_, trivial⟩ <;> (dsimp only at z; first | (exfalso; omega) | (subst z; rfl)))]
      · rw [rw_k _ _ x (by refine ⟨fun z => ?_, fun z => ?_, fun z => ?_, trivial⟩ <;> (dsimp only at z; first | (exfalso; omega) | (subst z; rfl)))]
        exact frL_up L _ x x3
  · refine ⟨.inr (k, mj_rows I [(1, I 1), (18, I 18), (19, I 19), (20, I 20), (21, I 21), (22, I 22), (23, I 23), (24, I 24), (25, I 25), (26, I 26), (32, a.1), (33, a.2.1), (34, a.2.2.1), (35, a.2.2.2.1), (36, a.2.2.2.2.1), (37, a.2.2.2.2.2.1), (38, a.2.2.2.2.2.2.1), (39, a.2.2.2.2.2.2.2.1), (40, a.2.2.2.2.2.2.2.2), (41, I 41), (42, I 42), (43, I 43), (44, I 44), (45, I 45), (46, I 46), (50, I 50), (70, upd (I 70) t (I 70 t + 1))], L), 0, e, mj_rows (mj_rows I [(1, I 1), (18, I 18), (19, I 19), (20, I 20), (21, I 21), (22, I 22), (23, I 23), (24, I 24), (25, I 25), (26, I 26), (32, a.1), (33, a.2.1), (34, a.2.2.1), (35, a.2.2.2.1), (36, a.2.2.2.2.1), (37, a.2.2.2.2.2.1), (38, a.2.2.2.2.2.2.1), (39, a.2.2.2.2.2.2.2.1), (40, a.2.2.2.2.2.2.2.2), (41, I 41), (42, I 42), (43, I 43), (44, I 44), (45, I 45), (46, I 46), (50, I 50), (70, upd (I 70) t (I 70 t + 1))]) [(71, upd b.1 0 e), (72, upd (I 72) t (I 72 t + 1)), (73, I 73), (75, I 75), (80, b.2.1), (81, b.2.2.1), (82, b.2.2.2.1), (83, b.2.2.2.2.1), (84, b.2.2.2.2.2.1), (85, b.2.2.2.2.2.2.1), (86, b.2.2.2.2.2.2.2), (87, I 87), (88, I 88)], mj_rows (mj_rows (mj_rows I [(1, I 1), (18, I 18), (19, I 19), (20, I 20), (21, I 21), (22, I 22), (23, I 23), (24, I 24), (25, I 25), (26, I 26), (32, a.1), (33, a.2.1), (34, a.2.2.1), (35, a.2.2.2.1), (36, a.2.2.2.2.1), (37, a.2.2.2.2.2.1), (38, a.2.2.2.2.2.2.1), (39, a.2.2.2.2.2.2.2.1), (40, a.2.2.2.2.2.2.2.2), (41, I 41), (42, I 42), (43, I 43), (44, I 44), (45, I 45), (46, I 46), (50, I 50), (70, upd (I 70) t (I 70 t + 1))]) [(71, upd b.1 0 e), (72, upd (I 72) t (I 72 t + 1)), (73, I 73), (75, I 75), (80, b.2.1), (81, b.2.2.1), (82, b.2.2.2.1), (83, b.2.2.2.2.1), (84, b.2.2.2.2.2.1), (85, b.2.2.2.2.2.2.1), (86, b.2.2.2.2.2.2.2), (87, I 87), (88, I 88)]) [(71, upd b.1 0 e)], mj_rows L [(89, L 89), (90, L 90), (97, L 97)], mj_rows L [(89, L 89), (90, L 90), (97, L 97)], ?_, ?_, ?_, rfl, ?_, ?_, ?_⟩
    · unfold stX10_visits; rw [q1]; rfl
    · intro q hq; cases hq; exact o1
    · show (fnX11_visits F (I 71) (I 72) (I 73) (I 75) (I 80) (I 81) (I 82) (I 83) (I 84) (I 85) (I 86) (I 87) (I 88) (L 89) (L 90) (L 97) x1 x2).map _ = _
      rw [q2]; rfl
    · exact o2.symm
    · intro z; exact absurd (o2.symm.trans z) o3
    · refine gG_inv hK hj hI hQ hl (fun x x1 x2 x3 => ?_) rfl rfl (fun k k0 => upd_ne k0) (rf_up hr o4) (fun x x3 => ?_)
      · rw [rw_k _ _ x (by refine ⟨fun z => ?_, trivial⟩ <;> (dsimp only at z; first | (exfalso; omega) | (subst z; rfl))), rw_k _ _ x (by refine ⟨fun z => ?_, fun z => ?_, fun z => ?_, fun z => ?_, fun z => ?_, fun z => ?_, fun z => ?_, fun z => ?_, fun z => ?_, fun z => ?_, fun z => ?_, fun z => ?_, fun z => ?_, trivial⟩ <;> (dsimp only at z; first | (exfalso; omega) | (subst z; rfl))), rw_k _ _ x (by refine ⟨fun z => ?_, fun z => ?_, fun z => ?_, fun z => ?_, fun z => ?_, fun z => ?_, fun z => ?_, fun z => ?_, fun z => ?_, fun z => ?_, fun z => ?_, fun z => ?_, fun z => ?_, fun z => ?_, fun z => ?_, fun z => ?_, fun z => ?_, fun z => ?_, fun z => ?_, fun z => ?_, fun z => ?_, fun z => ?_, fun z => ?_, fun z => ?_, fun z => ?_, fun z => ?_, fun z => ?_, trivial⟩ <;> (dsimp only at z; first | (exfalso; omega) | (subst z; rfl)))]
      · rw [rw_k _ _ x (by refine ⟨fun z => ?_, fun z => ?_, fun z => ?_, trivial⟩ <;> (dsimp only at z; first | (exfalso; omega) | (subst z; rfl)))]
