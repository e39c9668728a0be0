/-! ===== the statements, in both programs ===== -/
def sr (s a b c : Int32) : Prop := ∃ f g t : Int, 0 ≤ f ∧ f ≤ 15 ∧ 0 ≤ g ∧ g ≤ 15 ∧ 0 ≤ t ∧ t ≤ 2 ∧ s.toInt = f + 16 * g + 256 * t ∧ a.toInt = f - 10 ∧ b.toInt = g - 10 ∧ c.toInt = (if t = 1 then 1 else if t = 2 then -1 else 0)
def tv (V : Int32) (f : Int) : Int := if f < 10 then f else V.toInt / un (f - 10).toNat % 10
theorem tv_b {V : Int32} (h : 0 ≤ V.toInt) {f : Int} (h1 : 0 ≤ f) : 0 ≤ tv V f ∧ tv V f ≤ 9 := by
  unfold tv
  split <;> omega
def smv (a b t : Int) : Int := if t = 1 then (a + b) % 10 else if t = 2 then (a + 10 - b) % 10 else a
theorem s7_sum3 (F : Nat) {x2 x3 x4 : Int32} (h2 : 0 ≤ x2.toInt ∧ x2.toInt ≤ 9) (h3 : 0 ≤ x3.toInt ∧ x3.toInt ≤ 9) : sp (jnX7_sumOf_48 F x2 x3 x4) (fun r => r.toInt = smv x2.toInt x3.toInt x4.toInt) := by
  have e1 : (1 : Int32).toInt = 1 := rfl
  have e2 : (2 : Int32).toInt = 2 := rfl
  have e10 : (10 : Int32).toInt = 10 := rfl
  have a1 := i_add (a := x2) (b := x3) (by omega) (by omega)
  have a2 : (x2 + 10).toInt = x2.toInt + 10 := by rw [i_add (by omega) (by omega), e10]
  have a3 : (x2 + 10 - x3).toInt = x2.toInt + 10 - x3.toInt := by rw [i_sub (by omega) (by omega), a2]
  unfold jnX7_sumOf_48 smv
  refine sp_ite (fun h => sp_some ?_) (fun h => sp_ite (fun h' => sp_some ?_) (fun h' => sp_some ?_))
  · rw [if_pos (by rw [h]; rfl), i_rem (by omega) (by omega), a1, e10]
  · rw [if_neg (fun z => h (i_eq.mpr (by rw [z]; rfl))), if_pos (by rw [h']; rfl), i_rem (by omega) (by omega), a3, e10]
  · rw [if_neg (fun z => h (i_eq.mpr (by rw [z]; rfl))), if_neg (fun z => h' (i_eq.mpr (by rw [z]; rfl)))]
theorem s7_get10 (F : Nat) {V x : Int32} (hV : sx V) (h1 : 10 ≤ x.toInt) (h2 : x.toInt ≤ 15) : sp (fnX1_get F V (x - 10)) (fun r => r.toInt = tv V x.toInt) := by
  have e10 : (10 : Int32).toInt = 10 := rfl
  have a1 : (x - 10).toInt = x.toInt - 10 := by rw [i_sub (by omega) (by omega), e10]
  have hg := g_get F V (v := x - 10) ⟨by omega, by omega⟩
  refine ⟨_, hg, ?_⟩
  show (dgt V (x - 10).toNatClampNeg).toInt = _
  rw [dgt_i hV.1, i_cl, a1]
  unfold tv
  rw [if_neg (by omega)]
theorem s7_sum2 (F : Nat) {V x2 x3 x4 : Int32} (hV : sx V) (h2 : 0 ≤ x2.toInt ∧ x2.toInt ≤ 9) (h3 : 0 ≤ x3.toInt ∧ x3.toInt ≤ 15) : sp (jnX7_sumOf_33 F V x2 x3 x4) (fun r => r.toInt = smv x2.toInt (tv V x3.toInt) x4.toInt) := by
  have e10 : (10 : Int32).toInt = 10 := rfl
  unfold jnX7_sumOf_33
  refine sp_ite (fun h => ?_) (fun h => ?_)
  · have h' := i_lt.mp h
    have : tv V x3.toInt = x3.toInt := by unfold tv; rw [if_pos (by omega)]
    rw [this]
    exact s7_sum3 F h2 ⟨h3.1, by omega⟩
  · have h' : ¬ x3.toInt < (10 : Int32).toInt := fun z => h (i_lt.mpr z)
    refine sp_bind (s7_get10 F hV (by omega) h3.2) (fun o ho => ?_)
    have hb := tv_b hV.1 h3.1
    rw [← ho] at hb ⊢
    exact s7_sum3 F h2 hb
theorem s7_sumOf (F : Nat) {V s a b c : Int32} (hV : sx V) (h : sr s a b c) : sp (fnX7_sumOf F s V) (fun r => ∃ f g t : Int, 0 ≤ f ∧ f ≤ 15 ∧ 0 ≤ g ∧ g ≤ 15 ∧ 0 ≤ t ∧ t ≤ 2 ∧ a.toInt = f - 10 ∧ b.toInt = g - 10 ∧ c.toInt = (if t = 1 then 1 else if t = 2 then -1 else 0) ∧ r.toInt = smv (tv V f) (tv V g) t) := by
  obtain ⟨f, g, t, h1, h2, h3, h4, h5, h6, h7, h8, h9, h10⟩ := h
  have e10 : (10 : Int32).toInt = 10 := rfl
  have a1 := i_and15 (x := s) (by omega)
  have a2 := i_shr4 (x := s)
  have a3 := i_and15 (x := s >>> ((4 : Int32) &&& 31)) (by rw [a2]; omega)
  have a4 := i_shr8 (x := s)
  have f1 : (s &&& 15).toInt = f := by omega
  have f2 : (s >>> ((4 : Int32) &&& 31) &&& 15).toInt = g := by omega
  have f3 : (s >>> ((8 : Int32) &&& 31)).toInt = t := by omega
  unfold fnX7_sumOf
  refine sp_ite (fun h => ?_) (fun h => ?_)
  · have h' := i_lt.mp h
    have e : tv V f = f := by unfold tv; rw [if_pos (by omega)]
    refine sp_mono (s7_sum2 F hV ⟨by omega, by omega⟩ ⟨by omega, by omega⟩) (fun r hr => ⟨f, g, t, h1, h2, h3, h4, h5, h6, h8, h9, h10, ?_⟩)
    rw [hr, f1, f2, f3, e]
  · have h' : ¬ (s &&& 15).toInt < (10 : Int32).toInt := fun z => h (i_lt.mpr z)
    refine sp_bind (s7_get10 F hV (by omega) (by omega)) (fun o ho => ?_)
    rw [f1] at ho
    have hb := tv_b hV.1 h1
    refine sp_mono (s7_sum2 F hV (by rw [ho]; exact hb) ⟨by omega, by omega⟩) (fun r hr => ⟨f, g, t, h1, h2, h3, h4, h5, h6, h8, h9, h10, ?_⟩)
    rw [hr, ho, f2, f3]
theorem s11_termIn (F : Nat) {r87 : Nat → Int32} (ht : tens r87) {V x : Int32} {f : Int} (hV : sx V) (h1 : 0 ≤ f) (h2 : f ≤ 15) (hx : x.toInt = f - 10) : sp (fnX11_termIn F r87 V x) (fun r => r.toInt = tv V f) := by
  have e10 : (10 : Int32).toInt = 10 := rfl
  have e0 : (0 : Int32).toInt = 0 := rfl
  unfold fnX11_termIn
  refine sp_ite (fun h => ?_) (fun h => sp_some ?_)
  · have h' := i_le.mp h
    have hg := g_valueIn F ht V (v := x) ⟨by omega, by omega⟩
    refine sp_bind (sp_of hg) (fun o ho => sp_some ?_)
    rw [ho, dgt_i hV.1, i_cl, hx]
    unfold tv
    rw [if_neg (by omega)]
  · have h' : ¬ (0 : Int32).toInt ≤ x.toInt := fun z => h (i_le.mpr z)
    rw [i_add (by omega) (by omega), hx, e10]
    unfold tv
    rw [if_pos (by omega)]
    omega
/-- a sum's value -/
theorem s2_sum (F : Nat) {r73 r87 : Nat → Int32} (ht : tens r87) {V s x : Int32} (at_ : Nat) (hx : x.toInt = at_) (hat : at_ + 2 < 480) (hV : sx V) (h : sr s (r73 at_) (r73 (at_ + 1)) (r73 (at_ + 2))) :
    sp2 (fnX7_sumOf F s V) (fnX11_sumIn F r73 r87 V x) (fun a b => a = b ∧ 0 ≤ a.toInt ∧ a.toInt ≤ 9) := by
  obtain ⟨r, hr, f, g, t, h1, h2, h3, h4, h5, h6, h8, h9, h10, h11⟩ := s7_sumOf F hV h
  have e10 : (10 : Int32).toInt = 10 := rfl
  have e1 : (1 : Int32).toInt = 1 := rfl
  have e2 : (2 : Int32).toInt = 2 := rfl
  have x1 : (x + 1).toInt = at_ + 1 := by rw [i_add (by omega) (by omega), hx, e1]
  have x2 : (x + 2).toInt = at_ + 2 := by rw [i_add (by omega) (by omega), hx, e2]
  have c0 : x.toNatClampNeg = at_ := by rw [i_cl, hx]; rfl
  have c1 : (x + 1).toNatClampNeg = at_ + 1 := by rw [i_cl, x1]; omega
  have c2 : (x + 2).toNatClampNeg = at_ + 2 := by rw [i_cl, x2]; omega
  have hf := tv_b hV.1 h1
  have hg := tv_b hV.1 h3
  have key : sp (fnX11_sumIn F r73 r87 V x) (fun b => b.toInt = (tv V f + (if t = 1 then 1 else if t = 2 then -1 else 0) * tv V g + 10) % 10) := by
    unfold fnX11_sumIn
    refine sp_pos (mj_ib_of (by omega) (by omega)) ?_
    rw [c0]
    refine sp_bind (s11_termIn F ht hV h1 h2 h8) (fun o2 ho2 => ?_)
    refine sp_pos (mj_ib_of (by omega) (by omega)) (sp_pos (mj_ib_of (by omega) (by omega)) ?_)
    rw [c1, c2]
    refine sp_bind (s11_termIn F ht hV h3 h4 h9) (fun o5 ho5 => sp_some ?_)
    have m : (r73 (at_ + 2) * o5).toInt = (if t = 1 then 1 else if t = 2 then -1 else 0) * tv V g := by
      rw [i_mul (by rw [h10, ho5]; split <;> (try split) <;> omega) (by rw [h10, ho5]; split <;> (try split) <;> omega), h10, ho5]
    have mb : -9 ≤ (r73 (at_ + 2) * o5).toInt ∧ (r73 (at_ + 2) * o5).toInt ≤ 9 := by
      rw [m]; split <;> (try split) <;> omega
    have a1 : (o2 + r73 (at_ + 2) * o5).toInt = tv V f + (r73 (at_ + 2) * o5).toInt := by rw [i_add (by omega) (by omega), ho2]
    have a2 : (o2 + r73 (at_ + 2) * o5 + 10).toInt = tv V f + (r73 (at_ + 2) * o5).toInt + 10 := by rw [i_add (by omega) (by omega), a1, e10]
    rw [i_rem (by omega) (by omega), a2, m, e10]
  obtain ⟨b, hb, hb2⟩ := key
  have hrb : 0 ≤ r.toInt ∧ r.toInt ≤ 9 := by
    rw [h11]; unfold smv
    split
    · omega
    · split <;> omega
  refine ⟨r, b, hr, hb, i_eq.mpr ?_, hrb.1, hrb.2⟩
  rw [h11, hb2]
  unfold smv
  split
  · omega
  · split <;> omega
/-- what the two hold of the statements -/
def pK1 (C : Int) (r19 r20 r21 r22 r23 r24 r25 r26 r73 : Nat → Int32) (k : Nat) : Prop :=
  r73 (12 * k) = r19 k ∧ 0 ≤ (r19 k).toInt ∧ (r19 k).toInt ≤ 6 ∧
  r73 (12 * k + 3) = r25 k ∧ 0 ≤ (r25 k).toInt ∧ (r25 k).toInt ≤ C ∧
  r73 (12 * k + 4) = r26 k ∧ (2 ≤ (r19 k).toInt ∧ (r19 k).toInt ≤ 4 → 0 ≤ (r26 k).toInt ∧ (r26 k).toInt ≤ C) ∧ ((r19 k).toInt = 5 → (r26 k).toInt = C + 1) ∧
  ((r19 k).toInt ≤ 1 → r73 (12 * k + 1) = r20 k ∧ vr (r20 k)) ∧ (1 < (r19 k).toInt → (r73 (12 * k + 1)).toInt = -1) ∧
  ((r19 k).toInt = 1 ∨ (r19 k).toInt = 2 → r73 (12 * k + 2) = r21 k) ∧ ((r19 k).toInt = 1 → (2 ≤ (r21 k).toInt ∧ (r21 k).toInt ≤ 6) ∨ (r21 k).toInt = 10) ∧ ((r19 k).toInt = 2 → 0 ≤ (r21 k).toInt ∧ (r21 k).toInt ≤ 60) ∧ (¬ ((r19 k).toInt = 1 ∨ (r19 k).toInt = 2) → (r73 (12 * k + 2)).toInt = -1) ∧
  ((r19 k).toInt = 0 ∨ (3 ≤ (r19 k).toInt ∧ (r19 k).toInt ≤ 5) → sr (r22 k) (r73 (12 * k + 5)) (r73 (12 * k + 6)) (r73 (12 * k + 7))) ∧
  (3 ≤ (r19 k).toInt ∧ (r19 k).toInt ≤ 5 → sr (r24 k) (r73 (12 * k + 8)) (r73 (12 * k + 9)) (r73 (12 * k + 10)) ∧ r73 (12 * k + 11) = r23 k)
def pK (r18 r19 r20 r21 r22 r23 r24 r25 r26 r73 : Nat → Int32) : Prop :=
  0 ≤ (r18 0).toInt ∧ (r18 0).toInt ≤ 40 ∧ ∀ k : Nat, (k : Int) < (r18 0).toInt → pK1 (r18 0).toInt r19 r20 r21 r22 r23 r24 r25 r26 r73 k
theorem g_of (F : Nat) (r73 : Nat → Int32) {x w : Int32} (k m : Nat) (hx : x.toInt = k) (hw : w.toInt = m) (h : 12 * k + m < 480) : fnX11_of F r73 x w = some (r73 (12 * k + m)) := by
  have e12 : (12 : Int32).toInt = 12 := rfl
  have e1 : (12 * x).toInt = 12 * k := by rw [i_mul (by rw [e12]; omega) (by rw [e12]; omega), hx, e12]
  have e2 : (12 * x + w).toInt = 12 * k + m := by rw [i_add (by omega) (by omega), e1, hw]
  unfold fnX11_of
  rw [if_pos (mj_ib_of (by omega) (by omega))]
  congr 2
  rw [i_cl, e2]
  omega
theorem s2_holds (F : Nat) {r22 r23 r24 r73 r87 : Nat → Int32} (ht : tens r87) {V x : Int32} (k : Nat) (hx : x.toInt = k) (hk : k < 40) (hV : sx V) (h1 : sr (r22 k) (r73 (12 * k + 5)) (r73 (12 * k + 6)) (r73 (12 * k + 7))) (h2 : sr (r24 k) (r73 (12 * k + 8)) (r73 (12 * k + 9)) (r73 (12 * k + 10))) (h3 : r73 (12 * k + 11) = r23 k) :
    sp2 (fnX7_holds F r22 r23 r24 x V) (fnX11_holds F r73 r87 V x) (fun a b => a = b) := by
  have e12 : (12 : Int32).toInt = 12 := rfl
  have e5 : (5 : Int32).toInt = 5 := rfl
  have e8 : (8 : Int32).toInt = 8 := rfl
  have a0 : (12 * x).toInt = 12 * k := by rw [i_mul (by rw [e12]; omega) (by rw [e12]; omega), hx, e12]
  have a1 : (12 * x + 5).toInt = ((12 * k + 5 : Nat) : Int) := by rw [i_add (by omega) (by omega), a0, e5]; omega
  have a2 : (12 * x + 8).toInt = ((12 * k + 8 : Nat) : Int) := by rw [i_add (by omega) (by omega), a0, e8]; omega
  have c : x.toNatClampNeg = k := by rw [i_cl, hx]; rfl
  have hib : mj_ib x 40 = true := mj_ib_of (by omega) (by omega)
  unfold fnX7_holds fnX11_holds
  refine sp2_lp hib ?_
  rw [c]
  refine sp2_bind (s2_sum F ht (12 * k + 5) a1 (by omega) hV h1) ?_
  rintro a a' ⟨rfl, -, -⟩
  refine sp2_lp hib ?_
  refine sp2_bind (s2_sum F ht (12 * k + 8) a2 (by omega) hV h2) ?_
  rintro b b' ⟨rfl, -, -⟩
  refine sp2_lp hib ?_
  refine sp2_br (sp_of (g_of F r73 k 11 hx rfl (by omega))) ?_
  rintro o rfl
  rw [h3]
  by_cases d1 : r23 k = 61
  · rw [if_pos d1, if_pos d1]
    by_cases d2 : a = b
    · rw [if_pos d2]; exact sp2_some rfl
    · rw [if_neg d2]; exact sp2_some rfl
  · rw [if_neg d1, if_neg d1, if_pos hib]
    by_cases d3 : r23 k = 60
    · rw [if_pos d3]
      by_cases d2 : b ≤ a
      · rw [if_pos d2]; exact sp2_some rfl
      · rw [if_neg d2]; exact sp2_some rfl
    · rw [if_neg d3]
      by_cases d2 : a = b
      · rw [if_pos d2]; exact sp2_some rfl
      · rw [if_neg d2]; exact sp2_some rfl
