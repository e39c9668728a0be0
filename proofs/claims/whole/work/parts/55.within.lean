/-! ===== within, the call ===== -/
theorem gG_congr {C : Int} {n : Nat} {fr na : Nat → Nat} {tg : Nat → Nat → Nat} {sh : Nat → Nat → Int} {r32 r33 r34 r35 r36 r37 r38 r39 r71 g r80 r81 r82 r83 r84 r85 r86 : Nat → Int32} (h4 : g 4 = r71 4) (h21 : g 21 = r71 21) (h24 : g 24 = r71 24) (h25 : g 25 = r71 25) (h : gG C n fr na tg sh r32 r33 r34 r35 r36 r37 r38 r39 r71 r80 r81 r82 r83 r84 r85 r86) : gG C n fr na tg sh r32 r33 r34 r35 r36 r37 r38 r39 g r80 r81 r82 r83 r84 r85 r86 := by
  unfold gG at h ⊢
  rw [h4, h21, h24, h25]
  exact h
/-- what the class keeps of the steps, between calls -/
def spI (I : mj_IT) : Prop := I 32 1 = 1 → I 51 0 = I 32 0 → ∃ (n : Nat) (fr na : Nat → Nat) (tg : Nat → Nat → Nat) (sh : Nat → Nat → Int) (d : Nat), gG (I 18 0).toInt n fr na tg sh (I 32) (I 33) (I 34) (I 35) (I 36) (I 37) (I 38) (I 39) (I 71) (I 80) (I 81) (I 82) (I 83) (I 84) (I 85) (I 86) ∧ spQ n na tg sh (en_ (I 33) (I 32 7)) d (I 51) (I 52) (I 54)
theorem h_within_no (F : Nat) {I : mj_IT} {L : mj_LT} {b : T8} (b0 : b.1 0 = 0) (x1 x2 : Int32) : jnX11_within_38 F (I 73) (I 75) (I 87) (L 97) x1 x2 0 b.1 (I 72) b.2.1 b.2.2.1 b.2.2.2.1 b.2.2.2.2.1 b.2.2.2.2.2.1 b.2.2.2.2.2.2.1 b.2.2.2.2.2.2.2 (L 91) (L 92) = some (0, upd b.1 0 2, upd (I 72) 1 (I 72 1 + 1), b.2.1, b.2.2.1, b.2.2.2.1, b.2.2.2.2.1, b.2.2.2.2.2.1, b.2.2.2.2.2.2.1, b.2.2.2.2.2.2.2, L 91, L 92) := by
  unfold jnX11_within_38
  rw [q_fine0 F b0 (show ¬ (2 : Int32) = 0 from by decide) (by decide), Option.bind_some, if_pos rfl]
  rfl
theorem qq_within (F : Nat) (hF : 2100 ≤ F) {I : mj_IT} (hp : pK (I 18) (I 19) (I 20) (I 21) (I 22) (I 23) (I 24) (I 25) (I 26) (I 73)) (ht : tens (I 87)) (hw : ∃ a b, lQ I a b ∧ exG F I = some a ∧ lyG F I (rL I (upd (I 71) 0 0)) = some b ∧ b.1 0 = 0 ∧ ((gX I a b ∧ a.1 6 = 0 ∧ b.1 21 = 0 ∧ nsG F I = some (.inl (a.1, a.2.1, a.2.2.1, a.2.2.2.1, a.2.2.2.2.1, a.2.2.2.2.2.1, a.2.2.2.2.2.2.1, a.2.2.2.2.2.2.2.1, a.2.2.2.2.2.2.2.2, I 70)) ∧ fwG F I = some (1, b.1, I 72, b.2)) ∨ (a.1 6 = 1 ∧ b.1 21 = 1 ∧ nsG F I = some (.inr (2, a.1, a.2.1, a.2.2.1, a.2.2.2.1, a.2.2.2.2.1, a.2.2.2.2.2.1, a.2.2.2.2.2.2.1, a.2.2.2.2.2.2.2.1, a.2.2.2.2.2.2.2.2, upd (I 70) 2 (I 70 2 + 1))) ∧ fwG F I = some (0, upd b.1 0 1, upd (I 72) 2 (I 72 2 + 1), b.2)))) (hfl : I 32 1 = 0 ∨ I 32 1 = 1) (h20' : I 32 1 = 1 → I 71 20 = 1) (hF2 : 30000 ≤ F) {L : mj_LT} (ho : odQ (L 97)) (hsp : spI I) (hvs : I 32 1 = 0 → ¬ I 51 0 = I 32 0 + 1) (x1 x2 : Int32) :
    ∃ (a : T9) (b : T8), lQ I a b ∧ b.1 0 = 0 ∧ ((∃ (v : Int32) (c51 c52 c53 c54 : Nat → Int32) (q91 q92 : Nat → Int64), fnX10_within F (I 1) (I 18) (I 19) (I 20) (I 21) (I 22) (I 23) (I 24) (I 25) (I 26) (I 32) (I 33) (I 34) (I 35) (I 36) (I 37) (I 38) (I 39) (I 40) (I 51) (I 52) (I 53) (I 54) (I 70) x1 x2 = some (.inl (v, a.1, a.2.1, a.2.2.1, a.2.2.2.1, a.2.2.2.2.1, a.2.2.2.2.2.1, a.2.2.2.2.2.2.1, a.2.2.2.2.2.2.2.1, a.2.2.2.2.2.2.2.2, c51, c52, c53, c54, I 70)) ∧ fnX11_within F (I 71) (I 72) (I 73) (I 75) (I 80) (I 81) (I 82) (I 83) (I 84) (I 85) (I 86) (I 87) (L 91) (L 92) (L 97) x1 x2 = some (v, b.1, I 72, b.2.1, b.2.2.1, b.2.2.2.1, b.2.2.2.2.1, b.2.2.2.2.2.1, b.2.2.2.2.2.2.1, b.2.2.2.2.2.2.2, q91, q92) ∧ c51 0 = a.1 0 ∧ ∃ (n : Nat) (fr na : Nat → Nat) (tg : Nat → Nat → Nat) (sh : Nat → Nat → Int) (d : Nat), gG (I 18 0).toInt n fr na tg sh a.1 a.2.1 a.2.2.1 a.2.2.2.1 a.2.2.2.2.1 a.2.2.2.2.2.1 a.2.2.2.2.2.2.1 a.2.2.2.2.2.2.2.1 b.1 b.2.1 b.2.2.1 b.2.2.2.1 b.2.2.2.2.1 b.2.2.2.2.2.1 b.2.2.2.2.2.2.1 b.2.2.2.2.2.2.2 ∧ spQ n na tg sh (en_ a.2.1 (a.1 7)) d c51 c52 c54) ∨ (∃ (k : Nat) (e : Int32) (t : Nat), ok_within k = true ∧ wk_within k = e ∧ ¬ e = 0 ∧ t < 3 ∧ fnX10_within F (I 1) (I 18) (I 19) (I 20) (I 21) (I 22) (I 23) (I 24) (I 25) (I 26) (I 32) (I 33) (I 34) (I 35) (I 36) (I 37) (I 38) (I 39) (I 40) (I 51) (I 52) (I 53) (I 54) (I 70) x1 x2 = some (.inr (k, a.1, a.2.1, a.2.2.1, a.2.2.2.1, a.2.2.2.2.1, a.2.2.2.2.2.1, a.2.2.2.2.2.2.1, a.2.2.2.2.2.2.2.1, a.2.2.2.2.2.2.2.2, I 51, I 52, I 53, I 54, upd (I 70) t (I 70 t + 1))) ∧ fnX11_within F (I 71) (I 72) (I 73) (I 75) (I 80) (I 81) (I 82) (I 83) (I 84) (I 85) (I 86) (I 87) (L 91) (L 92) (L 97) x1 x2 = some (0, upd b.1 0 e, upd (I 72) t (I 72 t + 1), b.2.1, b.2.2.1, b.2.2.2.1, b.2.2.2.2.1, b.2.2.2.2.2.1, b.2.2.2.2.2.2.1, b.2.2.2.2.2.2.2, L 91, L 92))) := by
  obtain ⟨a, b, hl, ha, hb, b0, hd⟩ := hw
  refine ⟨a, b, hl, b0, ?_⟩
  rcases hd with ⟨⟨n, fr, na, tg, sh, hG⟩, m1, m2, hn, hf⟩ | ⟨m1, m2, hn, hf⟩
  · by_cases h1 : 0 ≤ x1.toInt ∧ x1.toInt ≤ 200
    · by_cases h2 : 0 ≤ x2.toInt ∧ x2.toInt ≤ 2
      · left
        have hW : ∃ (n : Nat) (fr na : Nat → Nat) (tg : Nat → Nat → Nat) (sh : Nat → Nat → Int), gG (I 18 0).toInt n fr na tg sh a.1 a.2.1 a.2.2.1 a.2.2.2.1 a.2.2.2.2.1 a.2.2.2.2.2.1 a.2.2.2.2.2.2.1 a.2.2.2.2.2.2.2.1 b.1 b.2.1 b.2.2.1 b.2.2.2.1 b.2.2.2.2.1 b.2.2.2.2.2.1 b.2.2.2.2.2.2.1 b.2.2.2.2.2.2.2 ∧ (I 51 0 = a.1 0 → ∃ d, spQ n na tg sh (en_ a.2.1 (a.1 7)) d (I 51) (I 52) (I 54)) := by
          obtain ⟨q0, q1, q2, q3, q4, q5, q6⟩ := id hl
          by_cases hc : I 51 0 = a.1 0
          · by_cases hz : I 32 1 = 1
            · have ea := q1 hz
              subst ea
              obtain ⟨n', fr', na', tg', sh', d, w1, w2⟩ := hsp hz hc
              refine ⟨n', fr', na', tg', sh', ?_, fun _ => ⟨d, w2⟩⟩
              have h20 : I 71 20 = 1 := (h20' hz)
              have eb := q0 h20
              subst eb
              exact gG_congr (r71 := I 71) (g := upd (I 71) 0 0) (upd_ne (by decide)) (upd_ne (by decide)) (upd_ne (by decide)) (upd_ne (by decide)) w1
            · have hz0 : I 32 1 = 0 := (hfl.resolve_right hz)
              exact absurd (hc.trans (q2 hz0)) (hvs hz0)
          · exact ⟨n, fr, na, tg, sh, hG, fun z => absurd z hc⟩
        clear hG
        obtain ⟨n, fr, na, tg, sh, hG, hS⟩ := hW
        obtain ⟨o4, x4, w1, w2, d, w3⟩ := s10_within F hF2 (r53 := I 53) hG h1 hS
        obtain ⟨o5, x5, w5⟩ := s3_inForm F (by omega) (v := o4.1) (form := x2) (by rw [w1]; exact fd_md _)
        obtain ⟨o6, x6, w6, q91, q92, w7⟩ := s11_within F hF2 (r72 := I 72) (r73 := I 73) (r75 := I 75) (r87 := I 87) (q91 := L 91) (q92 := L 92) (x2 := x2) hG ho b0 h1
        rw [w1] at w5
        have ev : o5 = o6.1 := i_eq.mpr (isForm_one w5 w6)
        refine ⟨o5, o4.2.1, o4.2.2.1, o4.2.2.2.1, o4.2.2.2.2, q91, q92, ?_, ?_, w2, n, fr, na, tg, sh, d, hG, w3⟩
        · unfold fnX10_within
          change (nsG F I).bind _ = _
          rw [hn, Option.bind_some, Sum.elim_inl]
          change (fnX10_needNumber F (I 70) x1 0 200).bind _ = _
          rw [q_num_in F (I 70) (a := 0) (b := 200) h1, Option.bind_some, Sum.elim_inl, q_form_in F (I 70) h2, Option.bind_some, Sum.elim_inl]
          change (fnX9_endedBy F a.1 a.2.1 a.2.2.2.2.2.1 a.2.2.2.2.2.2.1 a.2.2.2.2.2.2.2.1 (I 51) (I 52) (I 53) (I 54) x1).bind _ = _
          rw [x4, Option.bind_some, x5]
          rfl
        · unfold fnX11_within
          change (fwG F I).bind _ = _
          rw [hf, Option.bind_some, if_neg (show ¬ (1 : Int32) = 0 from by decide), q_lies3_in F (a := 0) (b := 200) h1, Option.bind_some, if_neg (show ¬ (1 : Int32) = 0 from by decide), q_isForm_in F h2, Option.bind_some, if_neg (show ¬ (1 : Int32) = 0 from by decide)]
          change jnX11_within_38 F (I 73) (I 75) (I 87) (L 97) x1 x2 1 b.1 (I 72) b.2.1 b.2.2.1 b.2.2.2.1 b.2.2.2.2.1 b.2.2.2.2.2.1 b.2.2.2.2.2.2.1 b.2.2.2.2.2.2.2 (L 91) (L 92) = _
          rw [x6, ev]
          obtain ⟨u1, u2⟩ := o6
          dsimp only at w7
          rw [w7]
      · right
        refine ⟨1, 2, 1, rfl, rfl, by decide, by decide, ?_, ?_⟩
        · unfold fnX10_within
          change (nsG F I).bind _ = _
          rw [hn, Option.bind_some, Sum.elim_inl]
          change (fnX10_needNumber F (I 70) x1 0 200).bind _ = _
          rw [q_num_in F (I 70) (a := 0) (b := 200) h1, Option.bind_some, Sum.elim_inl, q_form_out F (I 70) h2]
          rfl
        · unfold fnX11_within
          change (fwG F I).bind _ = _
          rw [hf, Option.bind_some, if_neg (show ¬ (1 : Int32) = 0 from by decide), q_lies3_in F (a := 0) (b := 200) h1, Option.bind_some, if_neg (show ¬ (1 : Int32) = 0 from by decide), q_isForm_out F h2, Option.bind_some, if_pos rfl]
          exact h_within_no F b0 x1 x2
    · right
      refine ⟨1, 2, 1, rfl, rfl, by decide, by decide, ?_, ?_⟩
      · unfold fnX10_within
        change (nsG F I).bind _ = _
        rw [hn, Option.bind_some, Sum.elim_inl]
        change (fnX10_needNumber F (I 70) x1 0 200).bind _ = _
        rw [q_num_out F (I 70) (a := 0) (b := 200) h1]
        rfl
      · unfold fnX11_within
        change (fwG F I).bind _ = _
        rw [hf, Option.bind_some, if_neg (show ¬ (1 : Int32) = 0 from by decide), q_lies3_out F (a := 0) (b := 200) h1, Option.bind_some, if_pos rfl]
        exact h_within_no F b0 x1 x2
  · right
    refine ⟨2, 1, 2, rfl, rfl, by decide, by decide, ?_, ?_⟩
    · unfold fnX10_within
      change (nsG F I).bind _ = _
      rw [hn]
      rfl
    · unfold fnX11_within
      change (fwG F I).bind _ = _
      rw [hf, Option.bind_some, if_pos rfl]
