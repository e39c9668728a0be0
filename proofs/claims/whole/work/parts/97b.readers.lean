/-! ===== the text: variables, numbers ===== -/
theorem s2_variable (F : Nat) (hF : 500 ≤ F) {M n q : Nat} (hM : 400 ≤ M) {r2 r3 r71 r77 : Nat → Int32} (ht : tx n r3 r77) (h : tE M n r3 r2 r71 q) :
    sp2 (fnX8_readVariable F r2 r3) (fnX11_name F r71 r77) (fun a b => tP M n r3 r2 r71 q a.2 b.2 ∧ (a.2 8 = 0 → a.1 = b.1 ∧ vr a.1)) := by
  have hn := ht.1
  have e1 : (1 : Int32).toInt = 1 := rfl
  have e97 : (97 : Int32).toInt = 97 := rfl
  have hV := s8_variable F hn h.1
  have hqn := h.1.2.2.1
  have hqb := h.1.2.2.2.1
  unfold fnX8_readVariable fnX11_name
  by_cases h8 : r2 8 = 0
  · obtain ⟨h14, hh⟩ := tE_0 h h8
    rw [if_pos h14]
    by_cases z : isV n (bt r3) q
    · have hT := tb_i (ht.2 q z.1)
      have z1 := z.2.1
      have z2 := z.2.2.1
      have z0 := z.1
      unfold bt at z1 z2
      have ev : (r3 q - 97).toInt = (r3 q).toInt - 97 := by rw [i_sub (by omega) (by omega), e97]
      have eq : r77 q = r3 q := i_eq.mpr (by omega)
      rw [(hV.1 z).1, Option.bind_some, if_neg (fun y => by have := congrArg Int32.toInt y; rw [ev] at this; have e : (-1 : Int32).toInt = -1 := rfl; rw [e] at this; omega)]
      refine sp2_br (s11_isName F hF ht hh) ?_
      rintro o ⟨o1, _, o2, o3, o4⟩
      have hb : (((o.2 11) + 1) - 1).toInt = (q : Nat) := by
        have a : ((o.2 11) + 1).toInt = (q : Int) + 1 := by rw [i_add (by omega) (by omega), o3, e1]
        rw [i_sub (by omega) (by omega), a, e1]
        omega
      have hb1 : ((o.2 11) + 1).toInt = ((q + 1 : Nat) : Int) := by rw [i_add (by omega) (by omega), o3, e1]; omega
      rw [if_neg (by rw [o1 z]; decide)]
      unfold jnX11_name_23
      rw [if_pos (show o.2 14 ≤ 0 by rw [o4 14 (by omega), h14]; decide), if_pos (show mj_ib (((o.2 11) + 1) - 1) 400 = true from mj_ib_of (by omega) (by omega)), i_cl, hb]
      refine sp2_bl (s8_next F hF (b := upd o.2 11 (o.2 11 + 1)) hn h.1 h8 (tE_9 h h8) (hV.1 z).2 (by omega) (by omega) (by rw [upd_ne (by omega)]; exact o2) (by rw [upd_at]; exact hb1) (by rw [upd_ne (by omega), o4 14 (by omega)]; exact h14) (fun k k1 _ _ _ => by rw [upd_ne k1]; exact o4 k k1)) (fun a ha => sp2_some ⟨ha, fun _ => ⟨?_, ?_⟩⟩)
      · show r3 q - 97 = r77 ((q : Int)).toNat - 97
        rw [Int.toNat_natCast, eq]
      · show vr (r3 q - 97)
        unfold vr
        omega
    · rw [hV.2 z, Option.bind_some, if_pos rfl, s8_fail0 F h8, Option.bind_some]
      refine sp2_br (s11_isName F hF ht hh) ?_
      rintro o ⟨_, o1, o2, o3, o4⟩
      rw [if_pos (o1 z), s11_wrong0 F (by rw [o4 14 (by omega)]; exact h14), Option.bind_some]
      unfold jnX11_name_23
      rw [if_neg (show ¬ upd (upd o.2 14 1) 15 (o.2 11) 14 ≤ 0 by rw [upd_ne (by omega), upd_at]; decide)]
      refine sp2_some ⟨tP_fail hM h.1 (by decide) o3 o2 ⟨q, o3, by omega⟩ (rk_11 o4), fun y => absurd y ?_⟩
      show ¬ upd (upd r2 8 1) 9 (r2 5) 8 = 0
      rw [upd_ne (by omega), upd_at]
      decide
  · obtain ⟨h1, h14⟩ := tE_1 h h8
    rw [if_neg h14]
    unfold jnX11_name_23
    rw [if_neg (i_nle h1)]
    by_cases z : isV n (bt r3) q
    · rw [(hV.1 z).1, Option.bind_some, s8_goOnF F h8, Option.bind_some, s8_failF F h8, Option.bind_some]
      split
      · exact sp2_some ⟨tP_F0 h h8, fun y => absurd y h8⟩
      · exact sp2_some ⟨tP_F0 h h8, fun y => absurd y h8⟩
    · rw [hV.2 z, Option.bind_some, if_pos rfl, s8_failF F h8, Option.bind_some]
      exact sp2_some ⟨tP_F0 h h8, fun y => absurd y h8⟩
theorem s11_isDigit (F : Nat) (hF : 500 ≤ F) {n q : Nat} {r3 r71 r77 : Nat → Int32} (ht : tx n r3 r77) (hh : hQr n r3 r71 q) :
    sp (fnX11_isDigit F r71 r77) (fun o => (q < n ∧ isD (bt r3 q) → o.1 = 1) ∧ (¬ (q < n ∧ isD (bt r3 q)) → o.1 = 0) ∧ (o.2 10).toInt = (n : Nat) ∧ (o.2 11).toInt = (q : Nat) ∧ ∀ k, k ≠ 11 → o.2 k = r71 k) := by
  have hn := ht.1
  have hqn : q ≤ n := by obtain ⟨_, h, _, h3⟩ := hh; exact h3.2.1
  have hqb : q < n → ¬ isB (bt r3 q) := by obtain ⟨_, h, _, h3⟩ := hh; exact h3.2.2.2
  unfold fnX11_isDigit
  refine sp_bind (s11_sign F hF ht hh) ?_
  rintro o ⟨o1, o2, o3, o4⟩
  refine sp_ite (fun z => sp_some ⟨fun w => ?_, fun _ => rfl, o2, o3, o4⟩) (fun z => ?_)
  · have z' : o.1.toInt < 48 := i_lt.mp z
    rw [o1] at z'
    unfold sg at z'
    rw [if_pos w.1] at z'
    have hT := tb_i (ht.2 q w.1)
    have w1 := w.2
    unfold isD bt at w1
    omega
  · refine sp_bind (s11_sign F hF ht (hQr_at o2 o3 hqn hqb)) ?_
    rintro u ⟨u1, u2, u3, u4⟩
    have u5 : ∀ k, k ≠ 11 → u.2 k = r71 k := fun k hk => (u4 k hk).trans (o4 k hk)
    refine sp_ite (fun y => sp_some ⟨fun w => ?_, fun _ => rfl, u2, u3, u5⟩) (fun y => ?_)
    · have z' : 57 < u.1.toInt := i_lt.mp y
      rw [u1] at z'
      unfold sg at z'
      rw [if_pos w.1] at z'
      have hT := tb_i (ht.2 q w.1)
      have w1 := w.2
      unfold isD bt at w1
      omega
    · refine sp_ite (fun x => sp_some ⟨fun w => ?_, fun _ => rfl, u2, u3, u5⟩) (fun x => sp_some ⟨fun _ => rfl, fun w => ?_, u2, u3, u5⟩)
      · have := i_le.mp x
        have := w.1
        omega
      · have x' : ¬ (u.2 10).toInt ≤ (u.2 11).toInt := fun w => x (i_le.mpr w)
        have hq : q < n := by omega
        have hT := tb_i (ht.2 q hq)
        have z' : ¬ o.1.toInt < 48 := fun w => z (i_lt.mpr w)
        have y' : ¬ 57 < u.1.toInt := fun w => y (i_lt.mpr w)
        rw [o1] at z'
        rw [u1] at y'
        unfold sg at z' y'
        rw [if_pos hq] at z' y'
        refine absurd ⟨hq, ?_⟩ w
        unfold isD bt
        omega
theorem s11_numberY (F : Nat) (hF : 500 ≤ F) {n q : Nat} {r3 r71 r77 : Nat → Int32} (ht : tx n r3 r77) (h14 : r71 14 = 0) (hh : hQr n r3 r71 q) (hz : q < n ∧ isD (bt r3 q)) :
    sp (fnX11_number F r71 r77) (fun o => ∃ e : Nat, run isD n (bt r3) q e ∧ o.1.toInt = nb 100000 (bt r3) q (e - q) ∧ (o.2 10).toInt = (n : Nat) ∧ (o.2 11).toInt = (e : Nat) ∧ (o.2 12).toInt = (q : Nat) ∧ o.2 14 = 0 ∧ rk r71 o.2) := by
  unfold fnX11_number
  rw [if_pos h14]
  refine sp_bind (s11_isDigit F hF ht hh) ?_
  rintro o ⟨o1, _, o2, o3, o4⟩
  rw [if_neg (by rw [o1 hz]; decide)]
  unfold jnX11_number_23
  rw [if_pos (show o.2 14 ≤ 0 by rw [o4 14 (by omega), h14]; decide)]
  refine sp_bind (s11_digits F hF (n := n) (p := q) ht (by rw [upd_ne (by omega)]; exact o2) (by rw [upd_ne (by omega)]; exact o3) (by omega)) ?_
  rintro ⟨v, s⟩ ⟨e, s1, s2, s3, s4⟩
  dsimp only at s1 s3 s4
  refine sp_u2 (sp_some ⟨e, s2, s3, ?_, s1, ?_, ?_, fun k k1 k2 k3 k4 => ?_⟩)
  · show (s 10).toInt = _
    rw [s4 10 (by omega), upd_ne (by omega)]; exact o2
  · show (s 12).toInt = _
    rw [s4 12 (by omega), upd_at]; exact o3
  · show s 14 = 0
    rw [s4 14 (by omega), upd_ne (by omega), o4 14 (by omega)]; exact h14
  · show s k = _
    rw [s4 k k1, upd_ne k2]; exact o4 k k1
theorem s11_numberN (F : Nat) (hF : 500 ≤ F) {n q : Nat} {r3 r71 r77 : Nat → Int32} (ht : tx n r3 r77) (h14 : r71 14 = 0) (hh : hQr n r3 r71 q) (hz : ¬ (q < n ∧ isD (bt r3 q))) :
    sp (fnX11_number F r71 r77) (fun o => ∃ s : Nat → Int32, o.2 = upd (upd s 14 1) 15 (s 11) ∧ (s 10).toInt = (n : Nat) ∧ (s 11).toInt = (q : Nat) ∧ rk r71 s) := by
  unfold fnX11_number
  rw [if_pos h14]
  refine sp_bind (s11_isDigit F hF ht hh) ?_
  rintro o ⟨_, o1, o2, o3, o4⟩
  rw [if_pos (o1 hz), s11_wrong0 F (by rw [o4 14 (by omega)]; exact h14), Option.bind_some]
  unfold jnX11_number_23
  rw [if_neg (show ¬ upd (upd o.2 14 1) 15 (o.2 11) 14 ≤ 0 by rw [upd_ne (by omega), upd_at]; decide)]
  exact sp_some ⟨o.2, rfl, o2, o3, rk_11 o4⟩
theorem s11_numberF (F : Nat) {r71 r77 : Nat → Int32} (h : 1 ≤ (r71 14).toInt) : fnX11_number F r71 r77 = some (0, r71) := by
  unfold fnX11_number jnX11_number_23
  rw [if_neg (i_n0 h), if_neg (i_nle h)]
def okN (x1 v : Int32) : Prop := (x1 = 2 → v.toInt ≤ 60) ∧ (x1 = 1 → 2 ≤ v.toInt ∧ v.toInt ≤ 6 ∨ v.toInt = 10) ∧ (x1 = 0 → v.toInt ≤ 9)
theorem okN0 {v : Int32} : okN 0 v ↔ v.toInt ≤ 9 := ⟨fun h => h.2.2 rfl, fun h => ⟨fun z => absurd z (by decide), fun z => absurd z (by decide), fun _ => h⟩⟩
theorem okN1 {v : Int32} : okN 1 v ↔ (2 ≤ v.toInt ∧ v.toInt ≤ 6 ∨ v.toInt = 10) := ⟨fun h => h.2.1 rfl, fun h => ⟨fun z => absurd z (by decide), fun _ => h, fun z => absurd z (by decide)⟩⟩
theorem okN2 {v : Int32} : okN 2 v ↔ v.toInt ≤ 60 := ⟨fun h => h.1 rfl, fun h => ⟨fun _ => h, fun z => absurd z (by decide), fun z => absurd z (by decide)⟩⟩
theorem s8_num0 (F : Nat) {r2 r3 : Nat → Int32} (h : r2 4 = 2) : (okN 0 (r2 7) → fnX8_readNumber F r2 r3 0 = (fnX8_goOn F r2 r3).bind (fun o => some (r2 7, o))) ∧ (¬ okN 0 (r2 7) → fnX8_readNumber F r2 r3 0 = (fnX8_fail F r2 2).bind (fun o => some (0, o))) := by
  unfold fnX8_readNumber jnX8_readNumber_31
  rw [if_pos h, if_neg (show ¬ (0 : Int32) = 2 by decide), if_neg (show ¬ (0 : Int32) = 2 by decide), if_neg (show ¬ (0 : Int32) = 1 by decide), if_neg (show ¬ (0 : Int32) = 1 by decide), if_pos rfl, if_neg (show ¬ (1 : Int32) = 0 by decide), okN0]
  by_cases z : (10 : Int32) ≤ r2 7
  · have z' : 10 ≤ (r2 7).toInt := i_le.mp z
    rw [if_pos z]
    exact ⟨fun y => absurd y (by omega), fun _ => rfl⟩
  · have z' : ¬ 10 ≤ (r2 7).toInt := fun y => z (i_le.mpr y)
    rw [if_neg z]
    exact ⟨fun _ => rfl, fun y => absurd (by omega) y⟩
theorem s8_num2 (F : Nat) {r2 r3 : Nat → Int32} (h : r2 4 = 2) : (okN 2 (r2 7) → fnX8_readNumber F r2 r3 2 = (fnX8_goOn F r2 r3).bind (fun o => some (r2 7, o))) ∧ (¬ okN 2 (r2 7) → fnX8_readNumber F r2 r3 2 = (fnX8_fail F r2 2).bind (fun o => some (0, o))) := by
  unfold fnX8_readNumber jnX8_readNumber_31
  rw [if_pos h, if_pos (show (2 : Int32) = 2 from rfl), if_pos (show (2 : Int32) = 2 from rfl), if_pos (show (0 : Int32) = 0 from rfl), if_neg (show ¬ (1 : Int32) = 0 by decide), ite_self, okN2]
  by_cases z : (60 : Int32) < r2 7
  · have z' : 60 < (r2 7).toInt := i_lt.mp z
    rw [if_pos z]
    exact ⟨fun y => absurd y (by omega), fun _ => rfl⟩
  · have z' : ¬ 60 < (r2 7).toInt := fun y => z (i_lt.mpr y)
    rw [if_neg z]
    exact ⟨fun _ => rfl, fun y => absurd (by omega) y⟩
theorem s8_num68 (F : Nat) {r2 r3 : Nat → Int32} {v : Int32} : (v.toInt = 10 → jnX8_readNumber_68 F r3 v r2 = (fnX8_goOn F r2 r3).bind (fun o => some (v, o))) ∧ (¬ v.toInt = 10 → jnX8_readNumber_68 F r3 v r2 = (fnX8_fail F r2 2).bind (fun o => some (0, o))) := by
  unfold jnX8_readNumber_68
  rw [if_pos (show (0 : Int32) = 0 from rfl), if_neg (show ¬ (1 : Int32) = 0 by decide)]
  by_cases z : v = 10
  · rw [if_pos z]
    exact ⟨fun _ => rfl, fun y => absurd (by rw [z]; rfl) y⟩
  · rw [if_neg z]
    exact ⟨fun y => absurd (i_eq.mpr y) z, fun _ => rfl⟩
theorem s8_num1 (F : Nat) {r2 r3 : Nat → Int32} (h : r2 4 = 2) : (okN 1 (r2 7) → fnX8_readNumber F r2 r3 1 = (fnX8_goOn F r2 r3).bind (fun o => some (r2 7, o))) ∧ (¬ okN 1 (r2 7) → fnX8_readNumber F r2 r3 1 = (fnX8_fail F r2 2).bind (fun o => some (0, o))) := by
  have h68 := s8_num68 F (r2 := r2) (r3 := r3) (v := r2 7)
  unfold fnX8_readNumber jnX8_readNumber_31
  rw [if_pos h, if_neg (show ¬ (1 : Int32) = 2 by decide), if_neg (show ¬ (1 : Int32) = 2 by decide), if_pos (show (1 : Int32) = 1 from rfl), if_pos (show (1 : Int32) = 1 from rfl), if_neg (show ¬ (1 : Int32) = 0 by decide), ite_self, okN1]
  by_cases z : r2 7 < (2 : Int32)
  · have z' : (r2 7).toInt < 2 := i_lt.mp z
    rw [if_pos z]
    exact ⟨fun y => h68.1 (by omega), fun y => h68.2 (by omega)⟩
  · have z' : ¬ (r2 7).toInt < 2 := fun y => z (i_lt.mpr y)
    rw [if_neg z]
    by_cases w : r2 7 ≤ (6 : Int32)
    · have w' : (r2 7).toInt ≤ 6 := i_le.mp w
      rw [if_pos w]
      exact ⟨fun _ => rfl, fun y => absurd (by omega) y⟩
    · have w' : ¬ (r2 7).toInt ≤ 6 := fun y => w (i_le.mpr y)
      rw [if_neg w]
      exact ⟨fun y => h68.1 (by omega), fun y => h68.2 (by omega)⟩
theorem s8_number (F : Nat) {r2 r3 : Nat → Int32} {x1 : Int32} (hx : x1 = 0 ∨ x1 = 1 ∨ x1 = 2) :
    (¬ r2 4 = 2 → fnX8_readNumber F r2 r3 x1 = (fnX8_fail F r2 1).bind (fun o => some (0, o))) ∧
    (r2 4 = 2 → okN x1 (r2 7) → fnX8_readNumber F r2 r3 x1 = (fnX8_goOn F r2 r3).bind (fun o => some (r2 7, o))) ∧
    (r2 4 = 2 → ¬ okN x1 (r2 7) → fnX8_readNumber F r2 r3 x1 = (fnX8_fail F r2 2).bind (fun o => some (0, o))) := by
  refine ⟨fun h => ?_, fun h => ?_, fun h => ?_⟩
  · unfold fnX8_readNumber
    rw [if_neg h]
  · rcases hx with rfl | rfl | rfl
    · exact (s8_num0 F h).1
    · exact (s8_num1 F h).1
    · exact (s8_num2 F h).1
  · rcases hx with rfl | rfl | rfl
    · exact (s8_num0 F h).2
    · exact (s8_num1 F h).2
    · exact (s8_num2 F h).2
theorem s8_numberF (F : Nat) {r2 r3 : Nat → Int32} {x1 : Int32} (hx : x1 = 0 ∨ x1 = 1 ∨ x1 = 2) (h8 : ¬ r2 8 = 0) : ∃ v, fnX8_readNumber F r2 r3 x1 = some (v, r2) := by
  have h := s8_number F (r2 := r2) (r3 := r3) hx
  by_cases z : r2 4 = 2
  · by_cases y : okN x1 (r2 7)
    · exact ⟨_, by rw [h.2.1 z y, s8_goOnF F h8, Option.bind_some]⟩
    · exact ⟨_, by rw [h.2.2 z y, s8_failF F h8, Option.bind_some]⟩
  · exact ⟨_, by rw [h.1 z, s8_failF F h8, Option.bind_some]⟩
theorem tk_num {n q : Nat} {r3 r2 : Nat → Int32} (ht : tk n r3 r2 q) :
    (q < n ∧ isD (bt r3 q) → r2 4 = 2 ∧ ∃ e : Nat, (r2 6).toInt = (e : Nat) ∧ q < e ∧ e ≤ n ∧ run isD n (bt r3) q e ∧ (r2 7).toInt = ncl (bt r3) q (e - q)) ∧ (¬ (q < n ∧ isD (bt r3 q)) → ¬ r2 4 = 2) := by
  obtain ⟨t3, t5, tq, t_b, e, t6, tqe, ten, hc⟩ := ht
  rcases hc with ⟨c1, c2, c3⟩ | ⟨c1, c2, c3, c4⟩ | ⟨c1, c2, c3, c4, c5⟩ | ⟨c1, c2, c3, c4, c5⟩
  · exact ⟨fun z => absurd z.1 (by omega), fun _ => by rw [c2]; decide⟩
  · refine ⟨fun z => absurd z.2 ?_, fun _ => by rw [c3]; decide⟩
    unfold isL at c2
    unfold isD
    omega
  · refine ⟨fun _ => ⟨c3, e, t6, ?_, ten, c4, c5⟩, fun z => absurd ⟨c1, c2⟩ z⟩
    rcases Nat.lt_or_ge q e with z | z
    · exact z
    · have : e = q := by omega
      subst this
      exact absurd c2 (c4.2.2.2 c1)
  · exact ⟨fun z => absurd z.2 c3, fun _ => by rw [c4]; decide⟩
theorem okN_min {x1 a b : Int32} (hx : x1 = 0 ∨ x1 = 1 ∨ x1 = 2) (h : (b.toInt < 1000 → a.toInt = b.toInt) ∧ (1000 ≤ b.toInt → 1000 ≤ a.toInt)) : (okN x1 a ↔ okN x1 b) ∧ (okN x1 b → a = b) := by
  have k : okN x1 b → b.toInt < 1000 := by
    rcases hx with rfl | rfl | rfl
    · rw [okN0]; omega
    · rw [okN1]; omega
    · rw [okN2]; omega
  refine ⟨?_, fun y => i_eq.mpr (h.1 (k y))⟩
  rcases hx with rfl | rfl | rfl
  · rw [okN0, okN0]; omega
  · rw [okN1, okN1]; omega
  · rw [okN2, okN2]; omega
def nQ (M n : Nat) (r3 r2 r71 : Nat → Int32) (q : Nat) (x1 : Int32) (a b : Int32 × (Nat → Int32)) : Prop :=
  (b.2 14 = 0 ∧ okN x1 b.1 ∧ 0 ≤ b.1.toInt ∧ tP M n r3 r2 r71 q a.2 b.2 ∧ a.1 = b.1) ∨ (b.2 14 = 0 ∧ ¬ okN x1 b.1 ∧ tP M n r3 r2 r71 q a.2 (upd (upd b.2 14 2) 15 (b.2 12)) ∧ ¬ a.2 8 = 0) ∨ (1 ≤ (b.2 14).toInt ∧ tP M n r3 r2 r71 q a.2 b.2 ∧ ¬ a.2 8 = 0)
theorem s2_num (F : Nat) (hF : 500 ≤ F) {M n q : Nat} (hM : 400 ≤ M) {r2 r3 r71 r77 : Nat → Int32} {x1 : Int32} (hx : x1 = 0 ∨ x1 = 1 ∨ x1 = 2) (ht : tx n r3 r77) (h : tE M n r3 r2 r71 q) :
    sp2 (fnX8_readNumber F r2 r3 x1) (fnX11_number F r71 r77) (nQ M n r3 r2 r71 q x1) := by
  have hn := ht.1
  have hqn := h.1.2.2.1
  by_cases h8 : r2 8 = 0
  · obtain ⟨h14, hh⟩ := tE_0 h h8
    have hC := s8_number F (r2 := r2) (r3 := r3) hx
    have hT := tk_num h.1
    by_cases z : q < n ∧ isD (bt r3 q)
    · obtain ⟨t4, e, t6, tqe, ten, tr, t7⟩ := hT.1 z
      obtain ⟨o, ho, e', o1, o2, o3, o4, o5, o6, o7⟩ := s11_numberY F hF ht h14 hh z
      have := run_un o1 tr
      subst this
      rw [ho]
      have hdig : ∀ k, q ≤ k → k < q + (e' - q) → isD (bt r3 k) := fun k k1 k2 => o1.2.2.1 k k1 (by omega)
      have hmin := nb_min (e' - q) hdig
      rw [← o2, ← t7] at hmin
      have hok := okN_min hx hmin
      have hb := nb_b (cap := 100000) (by omega) (e' - q) hdig
      rw [← o2] at hb
      by_cases y : okN x1 o.1
      · rw [hC.2.1 t4 (hok.1.mpr y)]
        exact sp2_bl (s8_next F hF hn h.1 h8 (tE_9 h h8) t6 tqe ten o3 o4 o6 o7) (fun a ha => sp2_some (.inl ⟨o6, y, hb.1, ha, hok.2 y⟩))
      · rw [hC.2.2 t4 (fun w => y (hok.1.mp w)), s8_fail0 F h8, Option.bind_some]
        refine sp2_some (.inr (.inl ⟨o6, y, tP_fail hM h.1 (by decide) o5 o3 ⟨e', o4, by omega⟩ o7, ?_⟩))
        show ¬ upd (upd r2 8 2) 9 (r2 5) 8 = 0
        rw [upd_ne (by omega), upd_at]
        decide
    · obtain ⟨o, ho, s, o1, o2, o3, o4⟩ := s11_numberN F hF ht h14 hh z
      rw [ho, hC.1 (hT.2 z), s8_fail0 F h8, Option.bind_some]
      refine sp2_some (.inr (.inr ⟨?_, ?_, ?_⟩))
      · rw [o1, upd_ne (by omega), upd_at]
        decide
      · rw [o1]
        exact tP_fail hM h.1 (by decide) o3 o2 ⟨q, o3, by omega⟩ o4
      · show ¬ upd (upd r2 8 1) 9 (r2 5) 8 = 0
        rw [upd_ne (by omega), upd_at]
        decide
  · obtain ⟨v, hv⟩ := s8_numberF F (r3 := r3) hx h8
    obtain ⟨h1, h14⟩ := tE_1 h h8
    rw [hv, s11_numberF F h1]
    exact sp2_some (.inr (.inr ⟨h1, tP_F0 h h8, h8⟩))
