/-! ===== the text: signs, variables ===== -/
def rk (a b : Nat → Int32) : Prop := ∀ k, k ≠ 11 → k ≠ 12 → k ≠ 14 → k ≠ 15 → b k = a k
theorem rk_rf (a : Nat → Int32) : rk a a := fun k _ _ _ _ => rfl
theorem rk_tr {a b c : Nat → Int32} (h : rk a b) (h' : rk b c) : rk a c := fun k k1 k2 k3 k4 => (h' k k1 k2 k3 k4).trans (h k k1 k2 k3 k4)
theorem rk_11 {a b : Nat → Int32} (h : ∀ k, k ≠ 11 → b k = a k) : rk a b := fun k k1 _ _ _ => h k k1
/-- the two readers stand alike: before the token at q, or in the same fault -/
def tE (M n : Nat) (r3 r2 r71 : Nat → Int32) (q : Nat) : Prop := tk n r3 r2 q ∧ (r71 10).toInt = (n : Nat) ∧
  ((r2 8 = 0 ∧ r71 14 = 0 ∧ hQr n r3 r71 q ∧ r2 9 = -1) ∨ (1 ≤ (r2 8).toInt ∧ (r2 8).toInt ≤ 3 ∧ r71 14 = r2 8 ∧ r71 15 = r2 9 ∧ ∃ h : Nat, (r71 11).toInt = (h : Nat) ∧ h ≤ M))
def tP (M n : Nat) (r3 r2 r71 : Nat → Int32) (q : Nat) (a b : Nat → Int32) : Prop := ∃ q' : Nat, tE M n r3 a b q' ∧ q ≤ q' ∧ (a 8 = 0 → r2 8 = 0 ∧ q < q') ∧ ck r2 a ∧ rk r71 b
theorem i_n0 {x : Int32} (h : 1 ≤ x.toInt) : ¬ x = 0 := fun z => by rw [z] at h; exact absurd h (by decide)
theorem tE_n {M n q : Nat} {r3 r2 r71 : Nat → Int32} (h : tE M n r3 r2 r71 q) : r2 8 = 0 ↔ r71 14 = 0 := by
  rcases h.2.2 with a | ⟨a, _, b, _⟩
  · exact ⟨fun _ => a.2.1, fun _ => a.1⟩
  · rw [b]
theorem tP_F {M n q : Nat} {r3 r2 r71 b : Nat → Int32} (h : tE M n r3 r2 r71 q) (h8 : ¬ r2 8 = 0) (hb : ∀ k, k ≠ 11 → b k = r71 k) (hh : ∃ h' : Nat, (b 11).toInt = (h' : Nat) ∧ h' ≤ M) : tP M n r3 r2 r71 q r2 b := by
  obtain ⟨h1, h2, h3⟩ := h
  rcases h3 with a | ⟨a1, a2, a3, a4, a5⟩
  · exact absurd a.1 h8
  · exact ⟨q, ⟨h1, by rw [hb 10 (by omega)]; exact h2, .inr ⟨a1, a2, by rw [hb 14 (by omega)]; exact a3, by rw [hb 15 (by omega)]; exact a4, hh⟩⟩, Nat.le_refl q, fun z => absurd z h8, ck_rf r2, rk_11 hb⟩
theorem tE_h {M n q : Nat} {r3 r2 r71 : Nat → Int32} (h : tE M n r3 r2 r71 q) (h8 : ¬ r2 8 = 0) : ∃ h' : Nat, (r71 11).toInt = (h' : Nat) ∧ h' ≤ M := by
  rcases h.2.2 with a | a
  · exact absurd a.1 h8
  · exact a.2.2.2.2
theorem tP_F0 {M n q : Nat} {r3 r2 r71 : Nat → Int32} (h : tE M n r3 r2 r71 q) (h8 : ¬ r2 8 = 0) : tP M n r3 r2 r71 q r2 r71 := tP_F h h8 (fun _ _ => rfl) (tE_h h h8)
theorem tk_up {n q : Nat} {r3 r2 : Nat → Int32} {x y : Int32} (h : tk n r3 r2 q) : tk n r3 (upd (upd r2 8 x) 9 y) q := by
  have f : ∀ k, k ≠ 8 → k ≠ 9 → upd (upd r2 8 x) 9 y k = r2 k := fun k k1 k2 => by rw [upd_ne k2, upd_ne k1]
  unfold tk
  rw [f 3 (by omega) (by omega), f 4 (by omega) (by omega), f 5 (by omega) (by omega), f 6 (by omega) (by omega), f 7 (by omega) (by omega)]
  exact h
theorem tP_fail {M n q : Nat} {r3 r2 r71 s : Nat → Int32} {x z : Int32} (hM : 400 ≤ M) (ht : tk n r3 r2 q) (hx : 1 ≤ x.toInt ∧ x.toInt ≤ 3) (hz : z.toInt = (q : Nat)) (h10 : (s 10).toInt = (n : Nat)) (h11 : ∃ h : Nat, (s 11).toInt = (h : Nat) ∧ h ≤ M) (hk : rk r71 s) :
    tP M n r3 r2 r71 q (upd (upd r2 8 x) 9 (r2 5)) (upd (upd s 14 x) 15 z) := by
  have e5 : r2 5 = z := i_eq.mpr (by rw [hz]; exact ht.2.1)
  have a8 : upd (upd r2 8 x) 9 (r2 5) 8 = x := by rw [upd_ne (by omega), upd_at]
  refine ⟨q, ⟨tk_up ht, ?_, .inr ?_⟩, Nat.le_refl q, fun y => ?_, fun k k1 k2 k3 k4 k5 k6 => ?_, fun k k1 k2 k3 k4 => ?_⟩
  · rw [upd_ne (by omega), upd_ne (by omega)]; exact h10
  · rw [a8]
    refine ⟨hx.1, hx.2, ?_, ?_, ?_⟩
    · rw [upd_ne (by omega), upd_at]
    · rw [upd_at, upd_at, e5]
    · rw [upd_ne (by omega), upd_ne (by omega)]; exact h11
  · rw [a8] at y
    exact absurd y (i_n0 hx.1)
  · rw [upd_ne k6, upd_ne k5]
  · rw [upd_ne k4, upd_ne k3]; exact hk k k1 k2 k3 k4
theorem tE_9 {M n q : Nat} {r3 r2 r71 : Nat → Int32} (h : tE M n r3 r2 r71 q) (h8 : r2 8 = 0) : r2 9 = -1 := by
  rcases h.2.2 with a | a
  · exact a.2.2.2
  · exact absurd h8 (i_n0 a.1)
theorem s8_next (F : Nat) (hF : 500 ≤ F) {M n q e : Nat} {r3 r2 r71 b : Nat → Int32} (hn : n ≤ 400) (ht : tk n r3 r2 q) (h8 : r2 8 = 0) (h9 : r2 9 = -1) (h6 : (r2 6).toInt = (e : Nat)) (hqe : q < e) (hen : e ≤ n) (b10 : (b 10).toInt = (n : Nat)) (b11 : (b 11).toInt = (e : Nat)) (b14 : b 14 = 0) (hk : rk r71 b) :
    sp (fnX8_goOn F r2 r3) (fun a => tP M n r3 r2 r71 q a b) := by
  refine sp_mono (s8_goOn F hF hn h8 ht.1 h6 hen) ?_
  rintro a ⟨q', a1, a2, a3, a4, a5⟩
  have := a1.1
  exact ⟨q', ⟨a2, b10, .inl ⟨a3, b14, ⟨b10, e, b11, a1⟩, a5.trans h9⟩⟩, by omega, fun _ => ⟨h8, by omega⟩, a4, hk⟩
theorem s8_fail0 (F : Nat) {r2 : Nat → Int32} {x : Int32} (h8 : r2 8 = 0) : fnX8_fail F r2 x = some (upd (upd r2 8 x) 9 (r2 5)) := by unfold fnX8_fail; rw [if_pos h8]
theorem s8_failF (F : Nat) {r2 : Nat → Int32} {x : Int32} (h8 : ¬ r2 8 = 0) : fnX8_fail F r2 x = some r2 := by unfold fnX8_fail; rw [if_neg h8]
theorem s11_wrong0 (F : Nat) {r71 : Nat → Int32} {x y : Int32} (h : r71 14 = 0) : fnX11_wrong F r71 x y = some (upd (upd r71 14 x) 15 y) := by unfold fnX11_wrong; rw [if_pos (by rw [h]; decide)]
theorem i_nle {x : Int32} (h : 1 ≤ x.toInt) : ¬ x ≤ 0 := fun z => by have : x.toInt ≤ 0 := i_le.mp z; omega
theorem s11_wrongF (F : Nat) {r71 : Nat → Int32} {x y : Int32} (h : 1 ≤ (r71 14).toInt) : fnX11_wrong F r71 x y = some r71 := by unfold fnX11_wrong; rw [if_neg (i_nle h)]
theorem tE_1 {M n q : Nat} {r3 r2 r71 : Nat → Int32} (h : tE M n r3 r2 r71 q) (h8 : ¬ r2 8 = 0) : 1 ≤ (r71 14).toInt ∧ ¬ r71 14 = 0 := by
  rcases h.2.2 with a | ⟨a1, a2, a3, _⟩
  · exact absurd a.1 h8
  · rw [a3]; exact ⟨a1, h8⟩
theorem tE_0 {M n q : Nat} {r3 r2 r71 : Nat → Int32} (h : tE M n r3 r2 r71 q) (h8 : r2 8 = 0) : r71 14 = 0 ∧ hQr n r3 r71 q := by
  rcases h.2.2 with a | a
  · exact ⟨a.2.1, a.2.2.1⟩
  · exact absurd h8 (i_n0 a.1)
theorem tk_cl {n q : Nat} {r3 r2 : Nat → Int32} (h : tk n r3 r2 q) : (r2 5).toNatClampNeg = q := by rw [i_cl, h.2.1]; rfl
theorem s8_isSign (F : Nat) {n q : Nat} {r2 r3 : Nat → Int32} {x : Int32} (hn : n ≤ 400) (ht : tk n r3 r2 q) (h1 : ¬ isL x.toInt) (h2 : ¬ isD x.toInt) : fnX8_isSign F r2 r3 x = some (if q < n ∧ r3 q = x then 1 else 0) := by
  have hcl := tk_cl ht
  obtain ⟨t3, t5, tq, t_b, e, t6, _, _, hc⟩ := ht
  unfold fnX8_isSign
  rcases hc with ⟨c1, c2, c3⟩ | ⟨c1, c2, c3, c4⟩ | ⟨c1, c2, c3, c4, c5⟩ | ⟨c1, c2, c3, c4, c5⟩
  · rw [if_neg (by rw [c2]; decide), if_neg (by omega)]
  · rw [if_neg (by rw [c3]; decide), if_neg (fun z => h1 (by rw [← z.2]; exact c2))]
  · rw [if_neg (by rw [c3]; decide), if_neg (fun z => h2 (by rw [← z.2]; exact c2))]
  · rw [if_pos c4, if_pos (mj_ib_of (by omega) (by omega)), hcl]
    by_cases z : r3 q = x
    · rw [if_pos z, if_pos ⟨c1, z⟩]
    · rw [if_neg z, if_neg (fun y => z y.2)]
theorem s8_signEnd {n q : Nat} {r2 r3 : Nat → Int32} {x : Int32} (ht : tk n r3 r2 q) (h1 : ¬ isL x.toInt) (h2 : ¬ isD x.toInt) (hz : q < n ∧ r3 q = x) : (r2 6).toInt = ((q + 1 : Nat) : Int) := by
  obtain ⟨t3, t5, tq, t_b, e, t6, _, _, hc⟩ := ht
  rcases hc with ⟨c1, c2, c3⟩ | ⟨c1, c2, c3, c4⟩ | ⟨c1, c2, c3, c4, c5⟩ | ⟨c1, c2, c3, c4, c5⟩
  · omega
  · exact absurd (by rw [← hz.2]; exact c2) h1
  · exact absurd (by rw [← hz.2]; exact c2) h2
  · rw [t6, c5]
theorem sg_eq {n q : Nat} {r3 r77 : Nat → Int32} {x : Int32} (ht : tx n r3 r77) (hx : 1 ≤ x.toInt ∧ x.toInt ≤ 127) : sg n r77 q = x ↔ (q < n ∧ r3 q = x) := by
  unfold sg
  by_cases z : q < n
  · rw [if_pos z]
    have := tb_eq (ht.2 q z) (by omega) hx.2
    exact ⟨fun y => ⟨z, this.mp y⟩, fun y => this.mpr y.2⟩
  · rw [if_neg z]
    exact ⟨fun y => absurd y.symm (i_n0 hx.1), fun y => absurd y.1 z⟩
theorem s11_takesY (F : Nat) (hF : 500 ≤ F) {n q : Nat} {r3 r71 r77 : Nat → Int32} {x : Int32} (ht : tx n r3 r77) (h14 : r71 14 = 0) (hh : hQr n r3 r71 q) (hx : 1 ≤ x.toInt ∧ x.toInt ≤ 127) (hz : q < n ∧ r3 q = x) :
    sp (fnX11_takes F r71 r77 x) (fun o => o.1 = 1 ∧ (o.2 10).toInt = (n : Nat) ∧ (o.2 11).toInt = ((q + 1 : Nat) : Int) ∧ ∀ k, k ≠ 11 → o.2 k = r71 k) := by
  have e1 : (1 : Int32).toInt = 1 := rfl
  have hn := ht.1
  unfold fnX11_takes
  rw [if_neg (by rw [h14]; decide)]
  refine sp_bind (s11_sign F hF ht hh) ?_
  rintro o ⟨o1, o2, o3, o4⟩
  rw [if_pos (o1.trans ((sg_eq ht hx).mpr hz)), if_pos (i_lt.mpr (by omega))]
  refine sp_some ⟨rfl, ?_, ?_, fun k hk => ?_⟩
  · show (upd _ _ _ 10).toInt = _
    rw [upd_ne (by omega)]; exact o2
  · show (upd _ _ _ 11).toInt = _
    rw [upd_at, i_add (by omega) (by omega), o3, e1]; omega
  · show upd _ _ _ k = _
    rw [upd_ne hk]; exact o4 k hk
theorem s11_takesN (F : Nat) (hF : 500 ≤ F) {n q : Nat} {r3 r71 r77 : Nat → Int32} {x : Int32} (ht : tx n r3 r77) (h14 : r71 14 = 0) (hh : hQr n r3 r71 q) (hx : 1 ≤ x.toInt ∧ x.toInt ≤ 127) (hz : ¬ (q < n ∧ r3 q = x)) :
    sp (fnX11_takes F r71 r77 x) (fun o => o.1 = 0 ∧ (o.2 10).toInt = (n : Nat) ∧ (o.2 11).toInt = (q : Nat) ∧ ∀ k, k ≠ 11 → o.2 k = r71 k) := by
  unfold fnX11_takes
  rw [if_neg (by rw [h14]; decide)]
  refine sp_bind (s11_sign F hF ht hh) ?_
  rintro o ⟨o1, o2, o3, o4⟩
  rw [if_neg (fun y => hz ((sg_eq ht hx).mp (o1.symm.trans y)))]
  exact sp_some ⟨rfl, o2, o3, o4⟩
theorem s11_takesF (F : Nat) {r71 r77 : Nat → Int32} {x : Int32} (h : 1 ≤ (r71 14).toInt) : fnX11_takes F r71 r77 x = some (0, r71) := by
  unfold fnX11_takes
  have a : (0 : Int32) < r71 14 := i_lt.mpr (show (0 : Int) < (r71 14).toInt by omega)
  rw [if_pos a]
def okS (x : Int32) : Prop := ¬ isL x.toInt ∧ ¬ isD x.toInt ∧ 1 ≤ x.toInt ∧ x.toInt ≤ 127
theorem s2_sign (F : Nat) (hF : 500 ≤ F) {M n q : Nat} (hM : 400 ≤ M) {r2 r3 r71 r77 : Nat → Int32} {x : Int32} (ht : tx n r3 r77) (hx : okS x) (h : tE M n r3 r2 r71 q) :
    sp2 (fnX8_readSign F r2 r3 x) (fnX11_needs F r71 r77 x) (tP M n r3 r2 r71 q) := by
  have hn := ht.1
  unfold fnX8_readSign fnX11_needs
  rw [s8_isSign F hn h.1 hx.1 hx.2.1, Option.bind_some]
  by_cases h8 : r2 8 = 0
  · obtain ⟨h14, hh⟩ := tE_0 h h8
    rw [if_pos h14]
    by_cases z : q < n ∧ r3 q = x
    · rw [if_pos z, if_neg (show ¬ (1 : Int32) = 0 from by decide)]
      refine sp2_br (s11_takesY F hF ht h14 hh hx.2.2 z) ?_
      rintro o ⟨o1, o2, o3, o4⟩
      rw [if_neg (by rw [o1]; decide)]
      exact sp2_bl (s8_next F hF hn h.1 h8 (tE_9 h h8) (s8_signEnd h.1 hx.1 hx.2.1 z) (by omega) (by omega) o2 o3 (by rw [o4 14 (by omega)]; exact h14) (rk_11 o4)) (fun a ha => sp2_some ha)
    · rw [if_neg z, if_pos rfl, s8_fail0 F h8, Option.bind_some]
      refine sp2_br (s11_takesN F hF ht h14 hh hx.2.2 z) ?_
      rintro o ⟨o1, o2, o3, o4⟩
      rw [if_pos o1, s11_wrong0 F (by rw [o4 14 (by omega)]; exact h14), Option.bind_some]
      exact sp2_some (tP_fail hM h.1 (by decide) o3 o2 ⟨q, o3, by have := h.1.2.2.1; omega⟩ (rk_11 o4))
  · obtain ⟨h1, h14⟩ := tE_1 h h8
    rw [if_neg h14]
    by_cases z : q < n ∧ r3 q = x
    · rw [if_pos z, if_neg (show ¬ (1 : Int32) = 0 from by decide), s8_goOnF F h8, Option.bind_some]
      exact sp2_some (tP_F0 h h8)
    · rw [if_neg z, if_pos rfl, s8_failF F h8, Option.bind_some]
      exact sp2_some (tP_F0 h h8)
/-! variables -/
def isV (n : Nat) (b : Nat → Int) (q : Nat) : Prop := q < n ∧ 97 ≤ b q ∧ b q ≤ 102 ∧ (q + 1 < n → ¬ isL (b (q + 1)))
theorem s8_variable (F : Nat) {n q : Nat} {r2 r3 : Nat → Int32} (hn : n ≤ 400) (ht : tk n r3 r2 q) :
    (isV n (bt r3) q → fnX8_variableHere F r2 r3 = some (r3 q - 97) ∧ (r2 6).toInt = ((q + 1 : Nat) : Int)) ∧ (¬ isV n (bt r3) q → fnX8_variableHere F r2 r3 = some (-1)) := by
  have hcl := tk_cl ht
  obtain ⟨t3, t5, tq, t_b, e, t6, tqe, ten, hc⟩ := ht
  unfold fnX8_variableHere
  rcases hc with ⟨c1, c2, c3⟩ | ⟨c1, c2, c3, c4⟩ | ⟨c1, c2, c3, c4, c5⟩ | ⟨c1, c2, c3, c4, c5⟩
  · rw [if_neg (by rw [c2]; decide)]
    exact ⟨fun z => absurd z.1 (by omega), fun _ => rfl⟩
  · rw [if_pos c3]
    have hlt : q < e := by
      rcases Nat.lt_or_ge q e with z | z
      · exact z
      · have : e = q := by omega
        subst this
        exact absurd c2 (c4.2.2.2 c1)
    have e1 : (1 : Int32).toInt = 1 := rfl
    have hd : ((r2 6) - (r2 5)).toInt = (e : Int) - (q : Int) := by rw [i_sub (by omega) (by omega), t6, t5]
    by_cases z : e = q + 1
    · rw [if_pos (i_eq.mpr (by omega)), if_pos (mj_ib_of (by omega) (by omega)), hcl]
      by_cases y : (102 : Int32) < r3 q
      · have y' : 102 < (r3 q).toInt := i_lt.mp y
        rw [if_pos y]
        exact ⟨fun w => absurd w.2.2.1 (by unfold bt; omega), fun _ => rfl⟩
      · have y' : ¬ 102 < (r3 q).toInt := fun w => y (i_lt.mpr w)
        rw [if_neg y, if_pos (mj_ib_of (by omega) (by omega))]
        refine ⟨fun _ => ⟨rfl, by rw [t6, z]⟩, fun w => absurd ⟨c1, c2.1, ?_, ?_⟩ w⟩
        · unfold bt; omega
        · intro y2
          rw [← z]
          exact c4.2.2.2 (by omega)
    · rw [if_neg (fun y => z (by have := i_eq.mp y; omega))]
      exact ⟨fun w => absurd (c4.2.2.1 (q + 1) (by omega) (by omega)) (w.2.2.2 (by omega)), fun _ => rfl⟩
  · rw [if_neg (by rw [c3]; decide)]
    refine ⟨fun z => absurd z.2.1 ?_, fun _ => rfl⟩
    unfold isD at c2
    omega
  · rw [if_neg (by rw [c4]; decide)]
    refine ⟨fun z => absurd ?_ c2, fun _ => rfl⟩
    have := z.2.1
    have := z.2.2.1
    unfold isL
    omega
theorem s11_small (F : Nat) {n k : Nat} {r3 r71 r77 : Nat → Int32} {x : Int32} (ht : tx n r3 r77) (h10 : (r71 10).toInt = (n : Nat)) (hx : x.toInt = (k : Nat)) :
    (k < n ∧ isL (bt r3 k) → fnX11_isSmall F r71 r77 x = some 1) ∧ (¬ (k < n ∧ isL (bt r3 k)) → fnX11_isSmall F r71 r77 x = some 0) := by
  have hn := ht.1
  unfold fnX11_isSmall
  by_cases z : k < n
  · have hcl : x.toNatClampNeg = k := by rw [i_cl, hx]; rfl
    have hT := tb_i (ht.2 k z)
    have hib : mj_ib x 400 = true := mj_ib_of (by omega) (by omega)
    rw [if_neg (fun y => by have := i_le.mp y; omega), if_pos hib, hcl]
    by_cases y : r77 k < 97
    · have y' : (r77 k).toInt < 97 := i_lt.mp y
      rw [if_pos y]
      refine ⟨fun w => absurd w.2 ?_, fun _ => rfl⟩
      unfold isL bt
      omega
    · have y' : ¬ (r77 k).toInt < 97 := fun w => y (i_lt.mpr w)
      rw [if_neg y, if_pos hib]
      by_cases v : (122 : Int32) < r77 k
      · have v' : 122 < (r77 k).toInt := i_lt.mp v
        rw [if_pos v]
        refine ⟨fun w => absurd w.2 ?_, fun _ => rfl⟩
        unfold isL bt
        omega
      · have v' : ¬ 122 < (r77 k).toInt := fun w => v (i_lt.mpr w)
        rw [if_neg v]
        refine ⟨fun _ => rfl, fun w => absurd ⟨z, ?_⟩ w⟩
        unfold isL bt
        omega
  · rw [if_pos (i_le.mpr (by omega))]
    exact ⟨fun w => absurd w.1 z, fun _ => rfl⟩
theorem s11_isName (F : Nat) (hF : 500 ≤ F) {n q : Nat} {r3 r71 r77 : Nat → Int32} (ht : tx n r3 r77) (hh : hQr n r3 r71 q) :
    sp (fnX11_isNameHere F r71 r77) (fun o => (isV n (bt r3) q → o.1 = 1) ∧ (¬ isV n (bt r3) q → o.1 = 0) ∧ (o.2 10).toInt = (n : Nat) ∧ (o.2 11).toInt = (q : Nat) ∧ ∀ k, k ≠ 11 → o.2 k = r71 k) := by
  have hn := ht.1
  have e1 : (1 : Int32).toInt = 1 := rfl
  have hqn : q ≤ n := by obtain ⟨_, h, _, h3⟩ := hh; exact h3.2.1
  have hqb : q < n → ¬ isB (bt r3 q) := by obtain ⟨_, h, _, h3⟩ := hh; exact h3.2.2.2
  unfold fnX11_isNameHere
  refine sp_bind (s11_sign F hF ht hh) ?_
  rintro o ⟨o1, o2, o3, o4⟩
  refine sp_ite (fun z => sp_some ⟨fun w => ?_, fun _ => rfl, o2, o3, o4⟩) (fun z => ?_)
  · have z' : o.1.toInt < 97 := i_lt.mp z
    rw [o1] at z'
    unfold sg at z'
    rw [if_pos w.1] at z'
    have hT := tb_i (ht.2 q w.1)
    have w1 := w.2.1
    have w2 := w.2.2.1
    unfold bt at w1 w2
    omega
  · refine sp_bind (s11_sign F hF ht (hQr_at o2 o3 hqn hqb)) ?_
    rintro u ⟨u1, u2, u3, u4⟩
    have u5 : ∀ k, k ≠ 11 → u.2 k = r71 k := fun k hk => (u4 k hk).trans (o4 k hk)
    refine sp_ite (fun y => sp_some ⟨fun w => ?_, fun _ => rfl, u2, u3, u5⟩) (fun y => ?_)
    · have z' : 102 < u.1.toInt := i_lt.mp y
      rw [u1] at z'
      unfold sg at z'
      rw [if_pos w.1] at z'
      have hT := tb_i (ht.2 q w.1)
      have w1 := w.2.1
      have w2 := w.2.2.1
      unfold bt at w1 w2
      omega
    · refine sp_ite (fun x => sp_some ⟨fun w => ?_, fun _ => rfl, u2, u3, u5⟩) (fun x => ?_)
      · have := i_le.mp x
        have := w.1
        omega
      · have x' : ¬ (u.2 10).toInt ≤ (u.2 11).toInt := fun w => x (i_le.mpr w)
        have hq : q < n := by omega
        have hT := tb_i (ht.2 q hq)
        have z' : ¬ o.1.toInt < 97 := fun w => z (i_lt.mpr w)
        have y' : ¬ 102 < u.1.toInt := fun w => y (i_lt.mpr w)
        rw [o1] at z'
        rw [u1] at y'
        unfold sg at z' y'
        rw [if_pos hq] at z' y'
        have hq1 : ((u.2 11) + 1).toInt = ((q + 1 : Nat) : Int) := by rw [i_add (by omega) (by omega), u3, e1]; omega
        have hS := s11_small F ht u2 hq1
        by_cases v : q + 1 < n ∧ isL (bt r3 (q + 1))
        · rw [hS.1 v, Option.bind_some, if_neg (show ¬ (1 : Int32) = 0 from by decide)]
          exact sp_some ⟨fun w => absurd v.2 (w.2.2.2 v.1), fun _ => rfl, u2, u3, u5⟩
        · rw [hS.2 v, Option.bind_some, if_pos rfl]
          refine sp_some ⟨fun _ => rfl, fun w => absurd ⟨hq, ?_, ?_, fun g1 g2 => v ⟨g1, g2⟩⟩ w, u2, u3, u5⟩
          · unfold bt; omega
          · unfold bt; omega
