/-! ===== the text: sums ===== -/
theorem okS_43 : okS 43 := by unfold okS isL isD; decide
theorem okS_45 : okS 45 := by unfold okS isL isD; decide
theorem okS_59 : okS 59 := by unfold okS isL isD; decide
theorem okS_61 : okS 61 := by unfold okS isL isD; decide
theorem okS_60 : okS 60 := by unfold okS isL isD; decide
theorem okS_35 : okS 35 := by unfold okS isL isD; decide
theorem okS_123 : okS 123 := by unfold okS isL isD; decide
theorem okS_125 : okS 125 := by unfold okS isL isD; decide
theorem s8_sumJF (F : Nat) {n q : Nat} {r2 r3 : Nat → Int32} {x : Int32} (hn : n ≤ 400) (ht : tk n r3 r2 q) (h8 : ¬ r2 8 = 0) : ∃ v, jnX8_readSum_25 F r3 x r2 = some (v, r2) := by
  unfold jnX8_readSum_25
  obtain ⟨v, hv⟩ := s8_termF F hn ht h8
  rw [s8_isSign F hn ht okS_43.1 okS_43.2.1, Option.bind_some, s8_goOnF F h8]
  unfold fnX7_sum
  simp only [hv, Option.bind_some]
  split
  · exact ⟨_, rfl⟩
  · exact ⟨_, rfl⟩
def f3 (at_ : Nat) (r s : Nat → Int32) : Prop := ∀ k, k ≠ at_ → k ≠ at_ + 1 → k ≠ at_ + 2 → s k = r k
def smQ (M n : Nat) (r3 r2 r71 : Nat → Int32) (q at_ : Nat) (r74 : Nat → Int32) (a : Int32 × (Nat → Int32)) (b : (Nat → Int32) × (Nat → Int32)) : Prop :=
  tP M n r3 r2 r71 q a.2 b.1 ∧ f3 at_ r74 b.2 ∧ (a.2 8 = 0 → sr a.1 (b.2 at_) (b.2 (at_ + 1)) (b.2 (at_ + 2)))
theorem u3 {at_ : Nat} {r74 : Nat → Int32} {A B C : Int32} : f3 at_ r74 (upd (upd (upd r74 at_ A) (at_ + 2) C) (at_ + 1) B) ∧ upd (upd (upd r74 at_ A) (at_ + 2) C) (at_ + 1) B at_ = A ∧ upd (upd (upd r74 at_ A) (at_ + 2) C) (at_ + 1) B (at_ + 1) = B ∧ upd (upd (upd r74 at_ A) (at_ + 2) C) (at_ + 1) B (at_ + 2) = C := by
  refine ⟨fun k k1 k2 k3 => ?_, ?_, ?_, ?_⟩
  · rw [upd_ne k2, upd_ne k3, upd_ne k1]
  · rw [upd_ne (by omega), upd_ne (by omega), upd_at]
  · rw [upd_at]
  · rw [upd_ne (by omega), upd_at]
theorem i_sum {x y t : Int32} {f g : Int} {T : Int} (hx : x.toInt = f) (hy : y.toInt = g) (ht : t.toInt = T) (hf : 0 ≤ f ∧ f ≤ 15) (hg : 0 ≤ g ∧ g ≤ 15) (hT : 0 ≤ T ∧ T ≤ 2) : ((x + 16 * y) + 256 * t).toInt = f + 16 * g + 256 * T := by
  have e16 : (16 : Int32).toInt = 16 := rfl
  have e256 : (256 : Int32).toInt = 256 := rfl
  have a : (16 * y).toInt = 16 * g := by rw [i_mul (by rw [e16]; omega) (by rw [e16]; omega), hy, e16]
  have b : (256 * t).toInt = 256 * T := by rw [i_mul (by rw [e256]; omega) (by rw [e256]; omega), ht, e256]
  have c : (x + 16 * y).toInt = f + 16 * g := by rw [i_add (by omega) (by omega), hx, a]
  rw [i_add (by omega) (by omega), b, c]
theorem s2_sumT (F : Nat) (hF : 500 ≤ F) {M n q : Nat} (hM : 400 ≤ M) (hM3 : M ≤ 1000) {r2 r3 r71 r77 : Nat → Int32} {x t c : Int32} {f T : Int} (ht : tx n r3 r77) (h : tE M n r3 r2 r71 q)
    (hx : x.toInt = f ∧ 0 ≤ f ∧ f ≤ 15) (hT : t.toInt = T ∧ (T = 1 ∧ c.toInt = 1 ∨ T = 2 ∧ c.toInt = -1)) :
    sp2 ((fnX8_readTerm F r2 r3).bind (fun o4 => (fnX7_sum F x t o4.1).bind (fun o5 => some (o5, o4.2)))) (fnX11_term F r71 r77) (fun a b => tP M n r3 r2 r71 q a.2 b.2 ∧ (a.2 8 = 0 → ∀ A : Int32, A.toInt = f - 10 → sr a.1 A b.1 c)) := by
  obtain ⟨a, b, ha, hb, hP, hV⟩ := s2_term F hF hM hM3 ht h
  rw [ha, hb, Option.bind_some]
  unfold fnX7_sum
  rw [Option.bind_some]
  refine sp2_some ⟨hP, fun y A hA => ?_⟩
  obtain ⟨g, g1, g2, g3, g4⟩ := hV y
  refine ⟨f, g, T, hx.2.1, hx.2.2, g1, g2, by omega, by omega, ?_, hA, g4, ?_⟩
  · show ((x + 16 * a.1) + 256 * t).toInt = _
    exact i_sum hx.1 g3 hT.1 hx.2 ⟨g1, g2⟩ (by omega)
  · rcases hT.2 with ⟨w1, w2⟩ | ⟨w1, w2⟩
    · rw [if_pos w1]; exact w2
    · rw [if_neg (by omega), if_pos w1]; exact w2
theorem tP_c {M n q q' : Nat} {r3 r2 r71 a b c d : Nat → Int32} (h1 : q ≤ q') (h2 : a 8 = 0 → r2 8 = 0 ∧ q < q') (h3 : ck r2 a) (h4 : rk r71 b) (k : tP M n r3 a b q' c d) : tP M n r3 r2 r71 q c d := by
  obtain ⟨q2, g1, g2, g3, g4, g5⟩ := k
  exact ⟨q2, g1, by omega, fun z => ⟨(h2 (g3 z).1).1, by have := (g3 z).2; omega⟩, ck_tr h3 g4, rk_tr h4 g5⟩
theorem s2_sumP (F : Nat) (hF : 500 ≤ F) {M n q : Nat} (hM : 400 ≤ M) (hM3 : M ≤ 1000) {r2 r3 r71 r74 r77 o : Nat → Int32} {x t c A s : Int32} {f T : Int} {at_ : Nat} (ht : tx n r3 r77) (h : tE M n r3 r2 r71 q) (h8 : r2 8 = 0) (hs : okS s) (z : q < n ∧ r3 q = s)
    (hx : x.toInt = f ∧ 0 ≤ f ∧ f ≤ 15) (hT : t.toInt = T ∧ (T = 1 ∧ c.toInt = 1 ∨ T = 2 ∧ c.toInt = -1)) (hA : A.toInt = f - 10) (o2 : (o 10).toInt = (n : Nat)) (o3 : (o 11).toInt = ((q + 1 : Nat) : Int)) (o4 : ∀ k, k ≠ 11 → o k = r71 k) :
    sp2 ((fnX8_goOn F r2 r3).bind (fun o3 => (fnX8_readTerm F o3 r3).bind (fun o4 => (fnX7_sum F x t o4.1).bind (fun o5 => some (o5, o4.2)))))
      ((fnX11_term F o r77).bind (fun o7 => some (o7.2, (upd (upd (upd r74 at_ A) (at_ + 2) c) (at_ + 1) o7.1)))) (smQ M n r3 r2 r71 q at_ r74) := by
  have hn := ht.1
  obtain ⟨h14, hh⟩ := tE_0 h h8
  refine sp2_bl (s8_next F hF (M := M) (r71 := r71) hn h.1 h8 (tE_9 h h8) (s8_signEnd h.1 hs.1 hs.2.1 z) (by omega) (by omega) o2 o3 (by rw [o4 14 (by omega)]; exact h14) (rk_11 o4)) (fun d hd => ?_)
  obtain ⟨q2, hE2, hd2, hd3, hd4, hd5⟩ := hd
  obtain ⟨u, v, hu, hv, hP, hS⟩ := s2_sumT F hF hM hM3 ht hE2 hx hT
  rw [hu, hv, Option.bind_some]
  refine sp2_some ⟨tP_c hd2 hd3 hd4 hd5 hP, u3.1, fun y => ?_⟩
  dsimp only
  rw [u3.2.1, u3.2.2.1, u3.2.2.2]
  exact hS y A hA
theorem s2_sum_ (F : Nat) (hF : 500 ≤ F) {M n q : Nat} (hM : 400 ≤ M) (hM3 : M ≤ 1000) {r2 r3 r71 r74 r77 : Nat → Int32} {x : Int32} {at_ : Nat} (hx : x.toInt = (at_ : Nat)) (hat : at_ + 2 < 480) (ht : tx n r3 r77) (h : tE M n r3 r2 r71 q) :
    sp2 (fnX8_readSum F r2 r3) (fnX11_sum F r71 r74 r77 x) (smQ M n r3 r2 r71 q at_ r74) := by
  have hn := ht.1
  have e1 : (1 : Int32).toInt = 1 := rfl
  have e2 : (2 : Int32).toInt = 2 := rfl
  have x1 : (x + 1).toInt = ((at_ + 1 : Nat) : Int) := by rw [i_add (by omega) (by omega), hx, e1]; omega
  have x2 : (x + 2).toInt = ((at_ + 2 : Nat) : Int) := by rw [i_add (by omega) (by omega), hx, e2]; omega
  have c0 : x.toNatClampNeg = at_ := by rw [i_cl, hx]; rfl
  have c1 : (x + 1).toNatClampNeg = at_ + 1 := by rw [i_cl, x1]; rfl
  have c2 : (x + 2).toNatClampNeg = at_ + 2 := by rw [i_cl, x2]; rfl
  have b0 : mj_ib x 480 = true := mj_ib_of (by omega) (by omega)
  have b1 : mj_ib (x + 1) 480 = true := mj_ib_of (by omega) (by omega)
  have b2 : mj_ib (x + 2) 480 = true := mj_ib_of (by omega) (by omega)
  have n10 : ¬ (1 : Int32) = 0 := by decide
  unfold fnX8_readSum fnX11_sum
  obtain ⟨a, b, ha, hb, hP, hV⟩ := s2_term F hF hM hM3 ht h
  rw [ha, hb, Option.bind_some, Option.bind_some, if_pos b0, c0]
  obtain ⟨q', hE, hq1, hq2, hk1, hk2⟩ := hP
  have hP : tP M n r3 r2 r71 q a.2 b.2 := ⟨q', hE, hq1, hq2, hk1, hk2⟩
  rw [s8_isSign F hn hE.1 okS_43.1 okS_43.2.1, s8_isSign F hn hE.1 okS_45.1 okS_45.2.1, Option.bind_some, Option.bind_some]
  by_cases h8 : a.2 8 = 0
  · obtain ⟨h14, hh⟩ := tE_0 hE h8
    obtain ⟨f, f1, f2, f3', f4⟩ := hV h8
    by_cases z : q' < n ∧ r3 q' = 43
    · -- plus
      rw [if_pos z, if_neg n10]
      unfold jnX8_readSum_25
      rw [s8_isSign F hn hE.1 okS_43.1 okS_43.2.1, Option.bind_some, if_pos z, if_neg n10]
      obtain ⟨⟨_, o⟩, ho, rfl, o2, o3, o4⟩ := s11_takesY F hF ht h14 hh okS_43.2.2 z
      dsimp only at o2 o3 o4
      rw [ho, Option.bind_some]
      dsimp only
      rw [if_neg n10]
      unfold jnX11_sum_34 jnX11_sum_35 jnX11_sum_60
      rw [if_neg n10, if_pos b2, if_neg n10]
      simp only [if_pos b1, c1, c2]
      obtain ⟨u, v, hu, hv, w1, w2, w3⟩ := s2_sumP F hF hM hM3 (t := 1) (c := 1) (T := 1) (r74 := r74) (at_ := at_) ht hE h8 okS_43 z ⟨f3', f1, f2⟩ ⟨rfl, .inl ⟨rfl, rfl⟩⟩ f4 o2 o3 o4
      rw [hu, hv]
      exact sp2_some ⟨tP_c hq1 hq2 hk1 hk2 w1, w2, w3⟩
    · rw [if_neg z, if_pos rfl]
      obtain ⟨⟨_, o⟩, ho, rfl, o2, o3, o4⟩ := s11_takesN F hF ht h14 hh okS_43.2.2 z
      dsimp only at o2 o3 o4
      rw [ho, Option.bind_some]
      dsimp only
      rw [if_pos rfl]
      have h14' : o 14 = 0 := by rw [o4 14 (by omega)]; exact h14
      have hh' : hQr n r3 o q' := hQr_at o2 o3 hE.1.2.2.1 hE.1.2.2.2.1
      by_cases y : q' < n ∧ r3 q' = 45
      · rw [if_pos y, if_neg n10]
        unfold jnX8_readSum_25
        rw [s8_isSign F hn hE.1 okS_43.1 okS_43.2.1, Option.bind_some, if_neg z, if_pos rfl]
        obtain ⟨⟨_, p⟩, hp, rfl, p2, p3, p4⟩ := s11_takesY F hF ht h14' hh' okS_45.2.2 y
        dsimp only at p2 p3 p4
        rw [hp, Option.bind_some]
        dsimp only
        rw [if_neg n10]
        unfold jnX11_sum_35 jnX11_sum_60
        rw [if_pos rfl, if_neg n10, if_pos b2, if_pos rfl, if_neg n10]
        simp only [if_pos b1, c1, c2]
        obtain ⟨u, v, hu, hv, w1, w2, w3⟩ := s2_sumP F hF hM hM3 (t := 2) (c := -1) (T := 2) (r74 := r74) (at_ := at_) ht hE h8 okS_45 y ⟨f3', f1, f2⟩ ⟨rfl, .inr ⟨rfl, rfl⟩⟩ f4 p2 p3 (fun k hk => (p4 k hk).trans (o4 k hk))
        rw [hu, hv]
        exact sp2_some ⟨tP_c hq1 hq2 hk1 hk2 w1, w2, w3⟩
      · rw [if_neg y, if_pos rfl]
        obtain ⟨⟨_, p⟩, hp, rfl, p2, p3, p4⟩ := s11_takesN F hF ht h14' hh' okS_45.2.2 y
        dsimp only at p2 p3 p4
        rw [hp, Option.bind_some]
        dsimp only
        rw [if_pos rfl]
        unfold jnX11_sum_34 jnX11_sum_35 jnX11_sum_60
        rw [if_pos rfl, if_pos rfl, if_pos b2, if_pos rfl, if_pos rfl, if_pos b1, c1, c2]
        have p5 : ∀ k, k ≠ 11 → p k = b.2 k := fun k hk => (p4 k hk).trans (o4 k hk)
        have p14 : p 14 = 0 := by rw [p5 14 (by omega)]; exact h14
        refine sp2_some ⟨⟨q', ⟨hE.1, p2, .inl ⟨h8, p14, hQr_at p2 p3 hE.1.2.2.1 hE.1.2.2.2.1, tE_9 hE h8⟩⟩, hq1, hq2, hk1, rk_tr hk2 (rk_11 p5)⟩, u3.1, fun _ => ?_⟩
        dsimp only
        rw [u3.2.1, u3.2.2.1, u3.2.2.2]
        refine ⟨f, 0, 0, f1, f2, by omega, by omega, by omega, by omega, by omega, f4, rfl, ?_⟩
        rw [if_neg (by omega), if_neg (by omega)]
        rfl
  · obtain ⟨h1, h14⟩ := tE_1 hE h8
    obtain ⟨v, hv⟩ := s8_sumJF F (x := a.1) hn hE.1 h8
    rw [hv, s11_takesF F h1, Option.bind_some]
    dsimp only
    rw [if_pos rfl, s11_takesF F h1, Option.bind_some]
    dsimp only
    rw [if_pos rfl]
    unfold jnX11_sum_34 jnX11_sum_35 jnX11_sum_60
    rw [if_pos rfl, if_pos rfl, if_pos b2, if_pos rfl, if_pos rfl, if_pos b1, c1, c2]
    by_cases z : q' < n ∧ r3 q' = 43
    · rw [if_pos z, if_neg n10]
      exact sp2_some ⟨hP, u3.1, fun y => absurd y h8⟩
    · rw [if_neg z, if_pos rfl]
      by_cases y : q' < n ∧ r3 q' = 45
      · rw [if_pos y, if_neg n10]
        exact sp2_some ⟨hP, u3.1, fun y => absurd y h8⟩
      · rw [if_neg y, if_pos rfl]
        exact sp2_some ⟨hP, u3.1, fun y => absurd y h8⟩
