/-! ===== the text: tests ===== -/
theorem tE_mo {M M' n q : Nat} {r3 r2 r71 : Nat → Int32} (hM : M ≤ M') (h : tE M n r3 r2 r71 q) : tE M' n r3 r2 r71 q := by
  obtain ⟨h1, h2, h3⟩ := h
  refine ⟨h1, h2, ?_⟩
  rcases h3 with a | ⟨a1, a2, a3, a4, g, a5, a6⟩
  · exact .inl a
  · exact .inr ⟨a1, a2, a3, a4, g, a5, by omega⟩
theorem tP_mo {M M' n q : Nat} {r3 r2 r71 a b : Nat → Int32} (hM : M ≤ M') (h : tP M n r3 r2 r71 q a b) : tP M' n r3 r2 r71 q a b := by
  obtain ⟨q', h1, h2⟩ := h
  exact ⟨q', tE_mo hM h1, h2⟩
def relRef (F : Nat) (r77 : Nat → Int32) (x1 : Int32) (r71 r74 : Nat → Int32) : Option ((Nat → Int32) × (Nat → Int32)) :=
  if (r71 14) = 0 then (fnX11_sign F r71 r77).bind (fun o10 => jnX11_test_25 F r77 x1 o10.1 o10.2 r74) else jnX11_test_25 F r77 x1 (0 : Int32) r71 r74
theorem s8_relF (F : Nat) {n q : Nat} {r2 r3 : Nat → Int32} (hn : n ≤ 400) (ht : tk n r3 r2 q) (h8 : ¬ r2 8 = 0) : ∃ v, fnX8_readRelation F r2 r3 = some (v, r2) := by
  have hcl := tk_cl ht
  have ht5 := ht.2.1
  unfold fnX8_readRelation
  rw [s8_isSign F hn ht okS_61.1 okS_61.2.1, s8_isSign F hn ht okS_60.1 okS_60.2.1, s8_isSign F hn ht okS_35.1 okS_35.2.1, s8_goOnF F h8, s8_failF F h8]
  simp only [Option.bind_some]
  by_cases z1 : q < n ∧ r3 q = 61
  · have z0 := z1.1
    rw [if_pos z1, if_neg (show ¬ (1 : Int32) = 0 by decide), if_pos (show mj_ib (r2 5) 400 = true from mj_ib_of (by omega) (by omega))]
    exact ⟨_, rfl⟩
  · rw [if_neg z1, if_pos rfl]
    by_cases z2 : q < n ∧ r3 q = 60
    · have z0 := z2.1
      rw [if_pos z2, if_neg (show ¬ (1 : Int32) = 0 by decide), if_pos (show mj_ib (r2 5) 400 = true from mj_ib_of (by omega) (by omega))]
      exact ⟨_, rfl⟩
    · rw [if_neg z2, if_pos rfl]
      by_cases z3 : q < n ∧ r3 q = 35
      · have z0 := z3.1
        rw [if_pos z3, if_neg (show ¬ (1 : Int32) = 0 by decide), if_pos (show mj_ib (r2 5) 400 = true from mj_ib_of (by omega) (by omega))]
        exact ⟨_, rfl⟩
      · rw [if_neg z3, if_pos rfl]
        exact ⟨_, rfl⟩
/-- one of the three relations stands at q -/
def isR (n : Nat) (r3 : Nat → Int32) (q : Nat) : Prop := q < n ∧ (r3 q = 61 ∨ r3 q = 60 ∨ r3 q = 35)
theorem isR_ok {n q : Nat} {r3 : Nat → Int32} (h : isR n r3 q) : okS (r3 q) := by
  rcases h.2 with e | e | e
  · rw [e]; exact okS_61
  · rw [e]; exact okS_60
  · rw [e]; exact okS_35
theorem s8_relY (F : Nat) {n q : Nat} {r2 r3 : Nat → Int32} (hn : n ≤ 400) (ht : tk n r3 r2 q) (h : isR n r3 q) : fnX8_readRelation F r2 r3 = (fnX8_goOn F r2 r3).bind (fun o => some (r3 q, o)) := by
  have hcl := tk_cl ht
  have ht5 := ht.2.1
  have z0 := h.1
  have hib : mj_ib (r2 5) 400 = true := mj_ib_of (by omega) (by omega)
  unfold fnX8_readRelation
  rw [s8_isSign F hn ht okS_61.1 okS_61.2.1, s8_isSign F hn ht okS_60.1 okS_60.2.1, s8_isSign F hn ht okS_35.1 okS_35.2.1]
  simp only [Option.bind_some, if_pos hib, hcl]
  by_cases z1 : q < n ∧ r3 q = 61
  · rw [if_pos z1, if_neg (show ¬ (1 : Int32) = 0 by decide)]
  · rw [if_neg z1, if_pos rfl]
    by_cases z2 : q < n ∧ r3 q = 60
    · rw [if_pos z2, if_neg (show ¬ (1 : Int32) = 0 by decide)]
    · rw [if_neg z2, if_pos rfl]
      by_cases z3 : q < n ∧ r3 q = 35
      · rw [if_pos z3, if_neg (show ¬ (1 : Int32) = 0 by decide)]
      · rcases h.2 with e | e | e
        · exact absurd ⟨z0, e⟩ z1
        · exact absurd ⟨z0, e⟩ z2
        · exact absurd ⟨z0, e⟩ z3
theorem s8_relN (F : Nat) {n q : Nat} {r2 r3 : Nat → Int32} (hn : n ≤ 400) (ht : tk n r3 r2 q) (h : ¬ isR n r3 q) : fnX8_readRelation F r2 r3 = (fnX8_fail F r2 1).bind (fun o => some (0, o)) := by
  unfold fnX8_readRelation
  rw [s8_isSign F hn ht okS_61.1 okS_61.2.1, s8_isSign F hn ht okS_60.1 okS_60.2.1, s8_isSign F hn ht okS_35.1 okS_35.2.1]
  rw [Option.bind_some, if_neg (show ¬ (q < n ∧ r3 q = 61) from fun z => h ⟨z.1, .inl z.2⟩), if_pos rfl, Option.bind_some, if_neg (show ¬ (q < n ∧ r3 q = 60) from fun z => h ⟨z.1, .inr (.inl z.2)⟩), if_pos rfl, Option.bind_some, if_neg (show ¬ (q < n ∧ r3 q = 35) from fun z => h ⟨z.1, .inr (.inr z.2)⟩), if_pos rfl]
theorem s11_64 (F : Nat) {r71 r74 r77 : Nat → Int32} {x1 x2 : Int32} {k : Nat} (hx : x1.toInt = (k : Nat)) (hk : k < 40) : jnX11_test_64 F r77 x1 x2 r71 r74 = (fnX11_sum F (upd r71 11 (r71 11 + 1)) (upd r74 (12 * k + 11) x2) r77 (12 * x1 + 8)).bind (fun o2 => some (o2.1, o2.2)) := by
  have e12 : (12 : Int32).toInt = 12 := rfl
  have e11 : (11 : Int32).toInt = 11 := rfl
  have a : (12 * x1).toInt = 12 * (k : Int) := by rw [i_mul (by rw [e12]; omega) (by rw [e12]; omega), hx, e12]
  have b : (12 * x1 + 11).toInt = ((12 * k + 11 : Nat) : Int) := by rw [i_add (by omega) (by omega), a, e11]; omega
  unfold jnX11_test_64
  rw [if_pos (mj_ib_of (by omega) (by omega)), i_cl, b]
  rfl
theorem s2_rel (F : Nat) (hF : 500 ≤ F) {n q k : Nat} {r2 r3 r71 r74 r77 : Nat → Int32} {x1 : Int32} (hx : x1.toInt = (k : Nat)) (hk : k < 40) (ht : tx n r3 r77) (h : tE 400 n r3 r2 r71 q) :
    ∃ (a : Int32 × (Nat → Int32)) (b : Nat → Int32) (w : Int32), fnX8_readRelation F r2 r3 = some a ∧ relRef F r77 x1 r71 r74 = (fnX11_sum F b (upd r74 (12 * k + 11) w) r77 (12 * x1 + 8)).bind (fun o2 => some (o2.1, o2.2)) ∧ tP 401 n r3 r2 r71 q a.2 b ∧ (a.2 8 = 0 → a.1 = w) := by
  have hn := ht.1
  have e1 : (1 : Int32).toInt = 1 := rfl
  unfold relRef
  by_cases h8 : r2 8 = 0
  · obtain ⟨h14, hh⟩ := tE_0 h h8
    obtain ⟨o, ho, o1, o2, o3, o4⟩ := s11_sign F hF ht hh
    have o14 : o.2 14 = 0 := by rw [o4 14 (by omega)]; exact h14
    have hqn := h.1.2.2.1
    have h11 : (o.2 11 + 1).toInt = ((q + 1 : Nat) : Int) := by rw [i_add (by omega) (by omega), o3, e1]; omega
    rw [if_pos h14, ho, Option.bind_some, o1]
    by_cases z : isR n r3 q
    · have z0 := z.1
      have hok := isR_ok z
      have hsg : sg n r77 q = r3 q := (sg_eq ht hok.2.2).mpr ⟨z0, rfl⟩
      obtain ⟨d, hd, hdP⟩ := s8_next F hF (M := 401) (r71 := r71) (b := upd o.2 11 (o.2 11 + 1)) hn h.1 h8 (tE_9 h h8) (s8_signEnd h.1 hok.1 hok.2.1 ⟨z0, rfl⟩) (by omega) (by omega) (by rw [upd_ne (by omega)]; exact o2) (by rw [upd_at]; exact h11) (by rw [upd_ne (by omega)]; exact o14) (fun k k1 _ _ _ => by rw [upd_ne k1]; exact o4 k k1)
      refine ⟨(r3 q, d), upd o.2 11 (o.2 11 + 1), r3 q, ?_, ?_, hdP, fun _ => rfl⟩
      · rw [s8_relY F hn h.1 z, hd, Option.bind_some]
      · rw [hsg]
        unfold jnX11_test_25 jnX11_test_44
        rw [if_pos (show o.2 11 < o.2 10 from i_lt.mpr (by omega)), s11_64 F hx hk]
        rcases z.2 with e | e | e
        · rw [if_pos e]
        · rw [if_neg (by rw [e]; decide), if_pos e]
        · rw [if_neg (by rw [e]; decide), if_neg (by rw [e]; decide), if_pos e]
    · have h61 : ¬ sg n r77 q = 61 := fun y => z (by have := (sg_eq ht okS_61.2.2).mp y; exact ⟨this.1, .inl this.2⟩)
      have h60 : ¬ sg n r77 q = 60 := fun y => z (by have := (sg_eq ht okS_60.2.2).mp y; exact ⟨this.1, .inr (.inl this.2)⟩)
      have h35 : ¬ sg n r77 q = 35 := fun y => z (by have := (sg_eq ht okS_35.2.2).mp y; exact ⟨this.1, .inr (.inr this.2)⟩)
      refine ⟨(0, upd (upd r2 8 1) 9 (r2 5)), upd (upd (upd o.2 14 1) 15 (o.2 11)) 11 (upd (upd o.2 14 1) 15 (o.2 11) 11 + 1), sg n r77 q, ?_, ?_, ?_, fun y => absurd y ?_⟩
      · rw [s8_relN F hn h.1 z, s8_fail0 F h8, Option.bind_some]
      · unfold jnX11_test_25 jnX11_test_55
        rw [if_neg h61, if_neg h60, if_neg h35, s11_wrong0 F o14, Option.bind_some, s11_64 F hx hk]
      · have hP := tP_fail (M := 401) (r71 := r71) (s := o.2) (x := 1) (z := o.2 11) (by omega) h.1 (by decide) o3 o2 ⟨q, o3, by omega⟩ (rk_11 o4)
        obtain ⟨q2, p1, p2, p3, p4, p5⟩ := hP
        have hF8 : ¬ upd (upd r2 8 1) 9 (r2 5) 8 = 0 := by rw [upd_ne (by omega), upd_at]; decide
        refine tP_c p2 p3 p4 p5 (tP_F p1 hF8 (fun k hk => by rw [upd_ne hk]) ⟨q + 1, ?_, by omega⟩)
        rw [upd_at, upd_ne (by omega), upd_ne (by omega)]
        exact h11
      · show ¬ upd (upd r2 8 1) 9 (r2 5) 8 = 0
        rw [upd_ne (by omega), upd_at]
        decide
  · obtain ⟨h1, h14⟩ := tE_1 h h8
    obtain ⟨g, g1, g2⟩ := tE_h h h8
    obtain ⟨v, hv⟩ := s8_relF F hn h.1 h8
    rw [if_neg h14]
    refine ⟨(v, r2), upd r71 11 (r71 11 + 1), 0, hv, ?_, tP_F (tE_mo (by omega) h) h8 (fun k hk => by rw [upd_ne hk]) ⟨g + 1, ?_, by omega⟩, fun y => absurd y h8⟩
    · unfold jnX11_test_25 jnX11_test_55
      rw [if_neg (show ¬ (0 : Int32) = 61 by decide), if_neg (show ¬ (0 : Int32) = 60 by decide), if_neg (show ¬ (0 : Int32) = 35 by decide), s11_wrongF F h1, Option.bind_some, s11_64 F hx hk]
    · rw [upd_at, i_add (by omega) (by omega), g1, e1]
      omega
def tsQ (n : Nat) (r3 r2 r71 : Nat → Int32) (q k : Nat) (r6 r7 r8 r9 r10 r74 : Nat → Int32) (a : (Nat → Int32) × (Nat → Int32) × (Nat → Int32) × (Nat → Int32) × (Nat → Int32) × (Nat → Int32)) (b : (Nat → Int32) × (Nat → Int32)) : Prop :=
  tP 401 n r3 r2 r71 q a.1 b.1 ∧ a.2.1 = r6 ∧ a.2.2.1 = r7 ∧ (∀ j, j ≠ k → a.2.2.2.1 j = r8 j ∧ a.2.2.2.2.1 j = r9 j ∧ a.2.2.2.2.2 j = r10 j) ∧ (∀ j, j < 12 * k + 5 ∨ 12 * k + 12 ≤ j → b.2 j = r74 j) ∧
  (a.1 8 = 0 → sr (a.2.2.2.1 k) (b.2 (12 * k + 5)) (b.2 (12 * k + 6)) (b.2 (12 * k + 7)) ∧ sr (a.2.2.2.2.2 k) (b.2 (12 * k + 8)) (b.2 (12 * k + 9)) (b.2 (12 * k + 10)) ∧ b.2 (12 * k + 11) = a.2.2.2.2.1 k)
theorem s2_test (F : Nat) (hF : 500 ≤ F) {n q k : Nat} {r2 r3 r6 r7 r8 r9 r10 r71 r74 r77 : Nat → Int32} {x1 x2 : Int32} (hx : x1.toInt = (k : Nat)) (hk : k < 40) (hx2 : ¬ x2 = 1 ∧ ¬ x2 = 2 ∧ ¬ x2 = 6) (ht : tx n r3 r77) (h : tE 401 n r3 r2 r71 q) (h8 : r2 8 = 0) :
    sp2 (fnX8_readBehindWord F r2 r3 r6 r7 r8 r9 r10 x1 x2) (fnX11_test F r71 r74 r77 x1) (tsQ n r3 r2 r71 q k r6 r7 r8 r9 r10 r74) := by
  have e12 : (12 : Int32).toInt = 12 := rfl
  have e5 : (5 : Int32).toInt = 5 := rfl
  have e8 : (8 : Int32).toInt = 8 := rfl
  have a12 : (12 * x1).toInt = 12 * (k : Int) := by rw [i_mul (by rw [e12]; omega) (by rw [e12]; omega), hx, e12]
  have a5 : (12 * x1 + 5).toInt = ((12 * k + 5 : Nat) : Int) := by rw [i_add (by omega) (by omega), a12, e5]; omega
  have a8 : (12 * x1 + 8).toInt = ((12 * k + 8 : Nat) : Int) := by rw [i_add (by omega) (by omega), a12, e8]; omega
  have cx : x1.toNatClampNeg = k := by rw [i_cl, hx]; rfl
  have hib : mj_ib x1 40 = true := mj_ib_of (by omega) (by omega)
  have h4 : tE 400 n r3 r2 r71 q := ⟨h.1, h.2.1, .inl ⟨h8, (tE_0 h h8).1, (tE_0 h h8).2, tE_9 h h8⟩⟩
  unfold fnX8_readBehindWord fnX11_test
  rw [if_neg hx2.1, if_neg hx2.2.1, if_neg hx2.2.2]
  obtain ⟨a, b, ha, hb, hP, hf, hS⟩ := s2_sum_ F hF (r74 := r74) (by omega) (by omega) a5 (by omega) ht h4
  rw [ha, hb, Option.bind_some, Option.bind_some, if_pos hib]
  obtain ⟨q1, hE1, g1, g2, g3, g4⟩ := hP
  obtain ⟨c, d, w, hc, hd, hP2, hw⟩ := s2_rel F hF (r74 := b.2) hx hk ht hE1
  unfold relRef at hd
  rw [hc, hd, Option.bind_some, if_pos hib]
  obtain ⟨q2, hE2, p1, p2, p3, p4⟩ := hP2
  obtain ⟨u, v, hu, hv, hP3, hf2, hS2⟩ := s2_sum_ F hF (r74 := upd b.2 (12 * k + 11) w) (by omega) (by omega) a8 (by omega) ht hE2
  rw [hu, hv, Option.bind_some, Option.bind_some, if_pos hib, cx]
  refine sp2_some ⟨tP_c g1 g2 g3 g4 (tP_c p1 p2 p3 p4 hP3), rfl, rfl, fun j hj => ⟨upd_ne hj, upd_ne hj, upd_ne hj⟩, fun j hj => ?_, fun y => ?_⟩
  · show v.2 j = _
    rw [hf2 j (by omega) (by omega) (by omega), upd_ne (by omega), hf j (by omega) (by omega) (by omega)]
  · obtain ⟨q3, hE3, s1, s2, s3, s4⟩ := hP3
    have y2 := (s2 y).1
    have y1 := (p2 y2).1
    have F1 : ∀ j, j < 12 * k + 8 → v.2 j = b.2 j := fun j hj => by rw [hf2 j (by omega) (by omega) (by omega), upd_ne (by omega)]
    refine ⟨?_, ?_, ?_⟩
    · show sr (upd r8 k a.1 k) (v.2 _) (v.2 _) (v.2 _)
      rw [upd_at, F1 _ (by omega), F1 _ (by omega), F1 _ (by omega)]
      exact hS y1
    · show sr (upd r10 k u.1 k) (v.2 _) (v.2 _) (v.2 _)
      rw [upd_at]
      exact hS2 y
    · show v.2 _ = upd r9 k c.1 k
      rw [upd_at, hf2 _ (by omega) (by omega) (by omega), upd_at, hw y2]
