/-! ===== the text: terms, sums, tests ===== -/
theorem s2_numTo (F : Nat) (hF : 500 ≤ F) {M n q : Nat} (hM : 400 ≤ M) {r2 r3 r71 r77 : Nat → Int32} {x1 lim : Int32} (hx : x1 = 0 ∧ lim = 9 ∨ x1 = 2 ∧ lim = 60) (ht : tx n r3 r77) (h : tE M n r3 r2 r71 q) :
    sp2 (fnX8_readNumber F r2 r3 x1) (fnX11_numberTo F r71 r77 lim) (fun a b => tP M n r3 r2 r71 q a.2 b.2 ∧ (a.2 8 = 0 → a.1 = b.1 ∧ 0 ≤ a.1.toInt ∧ a.1.toInt ≤ lim.toInt)) := by
  have hx' : x1 = 0 ∨ x1 = 1 ∨ x1 = 2 := by
    rcases hx with a | a
    · exact .inl a.1
    · exact .inr (.inr a.1)
  have hl : ∀ v : Int32, okN x1 v ↔ v ≤ lim := by
    intro v
    rcases hx with ⟨rfl, rfl⟩ | ⟨rfl, rfl⟩
    · rw [okN0, i_le]; rfl
    · rw [okN2, i_le]; rfl
  unfold fnX11_numberTo
  obtain ⟨a, b, ha, hb, hN⟩ := s2_num F hF hM hx' ht h
  rw [ha, hb, Option.bind_some]
  rcases hN with ⟨h1, h2, h3, h4, h5⟩ | ⟨h1, h2, h3, h4⟩ | ⟨h1, h2, h3⟩
  · rw [if_pos h1, if_pos ((hl _).mp h2)]
    exact sp2_some ⟨h4, fun _ => ⟨h5, by rw [h5]; exact h3, by rw [h5]; exact i_le.mp ((hl _).mp h2)⟩⟩
  · rw [if_pos h1, if_neg (fun y => h2 ((hl _).mpr y)), s11_wrong0 F h1, Option.bind_some]
    exact sp2_some ⟨h3, fun y => absurd y h4⟩
  · rw [if_neg (i_n0 h1)]
    exact sp2_some ⟨h2, fun y => absurd y h3⟩
theorem tP_pre {M n q : Nat} {r3 r2 r71 s a b : Nat → Int32} (hk : rk r71 s) (h : tP M n r3 r2 s q a b) : tP M n r3 r2 r71 q a b := by
  obtain ⟨q', h1, h2, h3, h4, h5⟩ := h
  exact ⟨q', h1, h2, h3, h4, rk_tr hk h5⟩
theorem tP_tr {M n q : Nat} {r3 r2 r71 a b c d : Nat → Int32} (h : tP M n r3 r2 r71 q a b) (k : ∀ q', tE M n r3 a b q' → tP M n r3 a b q' c d) : tP M n r3 r2 r71 q c d := by
  obtain ⟨q', h1, h2, h3, h4, h5⟩ := h
  obtain ⟨q2, g1, g2, g3, g4, g5⟩ := k q' h1
  exact ⟨q2, g1, by omega, fun z => ⟨(h3 (g3 z).1).1, by have := (g3 z).2; omega⟩, ck_tr h4 g4, rk_tr h5 g5⟩
theorem s8_variableF (F : Nat) {n q : Nat} {r2 r3 : Nat → Int32} (hn : n ≤ 400) (ht : tk n r3 r2 q) (h8 : ¬ r2 8 = 0) : ∃ v, fnX8_readVariable F r2 r3 = some (v, r2) := by
  have hV := s8_variable F hn ht
  unfold fnX8_readVariable
  by_cases z : isV n (bt r3) q
  · rw [(hV.1 z).1, Option.bind_some, s8_goOnF F h8, Option.bind_some, s8_failF F h8, Option.bind_some]
    split
    · exact ⟨_, rfl⟩
    · exact ⟨_, rfl⟩
  · rw [hV.2 z, Option.bind_some, if_pos rfl, s8_failF F h8, Option.bind_some]
    exact ⟨_, rfl⟩
theorem s8_termF (F : Nat) {n q : Nat} {r2 r3 : Nat → Int32} (hn : n ≤ 400) (ht : tk n r3 r2 q) (h8 : ¬ r2 8 = 0) : ∃ v, fnX8_readTerm F r2 r3 = some (v, r2) := by
  unfold fnX8_readTerm
  obtain ⟨v, hv⟩ := s8_numberF F (r3 := r3) (x1 := 0) (.inl rfl) h8
  obtain ⟨w, hw⟩ := s8_variableF F hn ht h8
  rw [hv, hw, Option.bind_some, Option.bind_some]
  split
  · exact ⟨_, rfl⟩
  · exact ⟨_, rfl⟩
theorem s11_nameF (F : Nat) {r71 r77 : Nat → Int32} (h : 1 ≤ (r71 14).toInt) : fnX11_name F r71 r77 = some (0, r71) := by
  unfold fnX11_name jnX11_name_23
  rw [if_neg (i_n0 h), if_neg (i_nle h)]
theorem s11_numberToF (F : Nat) {r71 r77 : Nat → Int32} {l : Int32} (h : 1 ≤ (r71 14).toInt) : fnX11_numberTo F r71 r77 l = some (0, r71) := by
  unfold fnX11_numberTo
  rw [s11_numberF F h, Option.bind_some, if_neg (i_n0 h)]
theorem s11_isDigitF (F : Nat) (hF : 500 ≤ F) {n h M : Nat} {r3 r71 r77 : Nat → Int32} (ht : tx n r3 r77) (h1 : (r71 10).toInt = (n : Nat)) (h2 : (r71 11).toInt = (h : Nat)) (hM : h ≤ M) (hM2 : 400 ≤ M) (hM3 : M ≤ 1000) :
    sp (fnX11_isDigit F r71 r77) (fun o => (∃ h' : Nat, (o.2 11).toInt = (h' : Nat) ∧ h' ≤ M) ∧ ∀ k, k ≠ 11 → o.2 k = r71 k) := by
  unfold fnX11_isDigit
  refine sp_bind (s11_signF F hF ht h1 h2 hM hM2 hM3) ?_
  rintro o ⟨⟨h', o1, o2⟩, o3⟩
  refine sp_ite (fun z => sp_some ⟨⟨h', o1, o2⟩, o3⟩) (fun z => ?_)
  refine sp_bind (s11_signF F hF ht (by rw [o3 10 (by omega)]; exact h1) o1 o2 hM2 hM3) ?_
  rintro u ⟨⟨g', u1, u2⟩, u3⟩
  have u4 : ∀ k, k ≠ 11 → u.2 k = r71 k := fun k hk => (u3 k hk).trans (o3 k hk)
  exact sp_ite (fun z => sp_some ⟨⟨g', u1, u2⟩, u4⟩) (fun z => sp_ite (fun z => sp_some ⟨⟨g', u1, u2⟩, u4⟩) (fun z => sp_some ⟨⟨g', u1, u2⟩, u4⟩))
theorem s2_term (F : Nat) (hF : 500 ≤ F) {M n q : Nat} (hM : 400 ≤ M) (hM3 : M ≤ 1000) {r2 r3 r71 r77 : Nat → Int32} (ht : tx n r3 r77) (h : tE M n r3 r2 r71 q) :
    sp2 (fnX8_readTerm F r2 r3) (fnX11_term F r71 r77) (fun a b => tP M n r3 r2 r71 q a.2 b.2 ∧ (a.2 8 = 0 → ∃ f : Int, 0 ≤ f ∧ f ≤ 15 ∧ a.1.toInt = f ∧ b.1.toInt = f - 10)) := by
  have hn := ht.1
  have e10 : (10 : Int32).toInt = 10 := rfl
  have e9 : (9 : Int32).toInt = 9 := rfl
  by_cases h8 : r2 8 = 0
  · obtain ⟨h14, hh⟩ := tE_0 h h8
    have hT := tk_num h.1
    unfold fnX8_readTerm fnX11_term
    refine sp2_br (s11_isDigit F hF ht hh) ?_
    rintro o ⟨o1, o0, o2, o3, o4⟩
    have hE : tE M n r3 r2 o.2 q := ⟨h.1, o2, .inl ⟨h8, by rw [o4 14 (by omega)]; exact h14, hQr_at o2 o3 h.1.2.2.1 h.1.2.2.2.1, tE_9 h h8⟩⟩
    by_cases z : q < n ∧ isD (bt r3 q)
    · rw [if_pos (hT.1 z).1, if_neg (by rw [o1 z]; decide)]
      refine sp2_bind (s2_numTo F hF hM (.inl ⟨rfl, rfl⟩) ht hE) (fun a b hab => sp2_some ⟨tP_pre (rk_11 o4) hab.1, fun y => ?_⟩)
      obtain ⟨c1, c2, c3⟩ := hab.2 y
      refine ⟨a.1.toInt, c2, by omega, rfl, ?_⟩
      show (b.1 - 10).toInt = _
      rw [← c1, i_sub (by omega) (by omega), e10]
    · rw [if_neg (hT.2 z), if_pos (o0 z)]
      refine sp2_bind (s2_variable F hF hM ht hE) (fun a b hab => sp2_some ⟨tP_pre (rk_11 o4) hab.1, fun y => ?_⟩)
      obtain ⟨c1, c2, c3⟩ := hab.2 y
      refine ⟨a.1.toInt + 10, by omega, by omega, ?_, ?_⟩
      · show (10 + a.1).toInt = _
        rw [i_add (by omega) (by omega), e10]
        omega
      · show b.1.toInt = _
        rw [← c1]
        omega
  · obtain ⟨v, hv⟩ := s8_termF F hn h.1 h8
    obtain ⟨h1, h14⟩ := tE_1 h h8
    obtain ⟨g, g1, g2⟩ := tE_h h h8
    rw [hv]
    unfold fnX11_term
    refine sp2_br (s11_isDigitF F hF ht h.2.1 g1 g2 hM hM3) ?_
    rintro o ⟨o1, o2⟩
    have h1' : 1 ≤ (o.2 14).toInt := by rw [o2 14 (by omega)]; exact h1
    rw [s11_nameF F h1', s11_numberToF F h1', Option.bind_some, Option.bind_some]
    split
    · exact sp2_some ⟨tP_F h h8 o2 o1, fun y => absurd y h8⟩
    · exact sp2_some ⟨tP_F h h8 o2 o1, fun y => absurd y h8⟩
