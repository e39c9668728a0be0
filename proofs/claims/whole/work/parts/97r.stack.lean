/-! ===== the text: the stack of blocks ===== -/
theorem stk_lt {c : Nat → Nat → Int32} {d K : Nat} (hs : stk c d K) : ∀ m e, e + m + 1 ≤ d → (c 15 e).toInt < (c 15 (e + m + 1)).toInt := by
  obtain ⟨s1, s2, s3, s4⟩ := hs
  have one : ∀ e, e + 1 ≤ d → (c 15 e).toInt < (c 15 (e + 1)).toInt := by
    intro e he
    obtain ⟨o, o1, o2, o3, o4, _⟩ := s2 (e + 1) (by omega) he
    rw [show e + 1 - 1 = e from rfl] at o4
    rcases s3 e (by omega) with z | ⟨l, l1, l2, l3, l4⟩
    · rw [o4] at z
      exact absurd z (i_m1 o2)
    · rw [o4] at l2
      have hl : l = o := by omega
      rw [o2, ← l4]
      rcases s4 l l1 with y | ⟨p, p1, p2⟩
      · rw [y]
        show (-1 : Int) < _
        omega
      · rw [p2]
        omega
  intro m
  induction m with
  | zero => intro e he; exact one e he
  | succ m ih =>
    intro e he
    have a := ih e (by omega)
    have b := one (e + m + 1) (by omega)
    rw [show e + (m + 1) + 1 = e + m + 1 + 1 by omega]
    omega
theorem stk_ne {c : Nat → Nat → Int32} {d K e l : Nat} (hs : stk c d K) (he : e < d) (hl : l < K) (h1 : (c 16 e).toInt = (l : Nat)) (h2 : (c 16 d).toInt = (l : Nat)) : False := by
  have hlt := stk_lt hs (d - e - 1) e (by omega)
  rw [show e + (d - e - 1) + 1 = d by omega] at hlt
  obtain ⟨s1, s2, s3, s4⟩ := hs
  rcases s3 e (by omega) with z | ⟨a, a1, a2, a3, a4⟩
  · exact absurd z (i_m1 h1)
  · rcases s3 d (Nat.le_refl d) with z | ⟨b, b1, b2, b3, b4⟩
    · exact absurd z (i_m1 h2)
    · have ea : a = l := by omega
      have eb' : b = l := by omega
      rw [ea] at a4
      rw [eb'] at b4
      rw [← a4, ← b4] at hlt
      omega
theorem stk_bgn {c c' : Nat → Nat → Int32} {d K : Nat} {i : Int32} (hs : stk c d K) (hK : (c 4 0).toInt = (K : Nat))
    (h5 : c' 5 = bgn c d K i 5) (h13 : c' 13 = bgn c d K i 13) (h14 : c' 14 = bgn c d K i 14) (h15 : c' 15 = c 15) (h16 : c' 16 = bgn c d K i 16) (h17 : c' 17 = c 17) : stk c' d (K + 1) := by
  have hne := fun e l he hl h1 h2 => stk_ne (e := e) (l := l) hs he hl h1 h2
  obtain ⟨s1, s2, s3, s4⟩ := hs
  have e5 : ∀ k, k < K → c' 5 k = c 5 k := fun k hk => by rw [h5]; exact upd_ne (by omega)
  have e13 : ∀ k, k < K → c' 13 k = c 13 k := fun k hk => by rw [h13]; exact upd_ne (by omega)
  have e13K : c' 13 K = c 15 d := by rw [h13]; exact upd_at
  have e14K : c' 14 K = -1 := by rw [h14]; exact upd_at
  have e16 : ∀ e, e ≠ d → c' 16 e = c 16 e := fun e he => by rw [h16]; exact upd_ne he
  have e16d : c' 16 d = c 4 0 := by rw [h16]; exact upd_at
  have e14n : ∀ k, k < K → ¬ (c 16 d).toInt = (k : Nat) → c' 14 k = c 14 k := fun k hk hx => by
    have a : c' 14 k = bg14 (c 16 d) (c 4 0) (c 14) k := by rw [h14]; exact upd_ne (by omega)
    rw [a]
    unfold bg14
    by_cases z : c 16 d = -1
    · rw [if_pos z]
    · rw [if_neg z]
      rcases s3 d (Nat.le_refl d) with y | ⟨l, l1, l2, _⟩
      · exact absurd y z
      · rw [i_cl, l2]
        exact upd_ne (fun w => hx (by rw [l2, w]; rfl))
  refine ⟨by rw [h15]; exact s1, fun e he1 he2 => ?_, fun e he => ?_, fun k hk => ?_⟩
  · obtain ⟨o, o1, o2, o3, o4, o5, o6⟩ := s2 e he1 he2
    rw [h15, h17]
    exact ⟨o, by omega, o2, by rw [e5 o o1]; exact o3, by rw [e16 _ (by omega)]; exact o4, o5, by rw [e5 o o1]; exact o6⟩
  · by_cases z : e = d
    · rw [z, e16d, h15]
      exact .inr ⟨K, by omega, hK, e14K, e13K⟩
    · rw [e16 e z, h15]
      rcases s3 e he with y | ⟨l, l1, l2, l3, l4⟩
      · exact .inl y
      · refine .inr ⟨l, by omega, l2, ?_, by rw [e13 l l1]; exact l4⟩
        rw [e14n l l1 (fun w => hne e l (by omega) l1 l2 w)]
        exact l3
  · by_cases z : k = K
    · rw [z, e13K]
      by_cases y : d = 0
      · rw [y]; exact .inl s1
      · obtain ⟨o, o1, o2, _⟩ := s2 d (by omega) (Nat.le_refl d)
        exact .inr ⟨o, o1, o2⟩
    · rw [e13 k (by omega)]
      exact s4 k (by omega)
/-- a block opens: for statement o, the latest of its row -/
theorem stk_open {c c' : Nat → Nat → Int32} {d K o : Nat} {w : Int32} (hs : stk c d K) (ho : o < K) (h16d : (c 16 d).toInt = (o : Nat)) (hk : c 5 o = 2 ∨ c 5 o = 3 ∨ c 5 o = 4) (hw : w = 0 ∨ w = 1) (hw4 : w = 1 → ¬ c 5 o = 4)
    (h5 : c' 5 = c 5) (h13 : c' 13 = c 13) (h14 : c' 14 = c 14) (h15 : c' 15 = upd (c 15) (d + 1) (c 16 d)) (h16 : c' 16 = upd (c 16) (d + 1) (-1)) (h17 : c' 17 = upd (c 17) (d + 1) w) : stk c' (d + 1) K := by
  obtain ⟨s1, s2, s3, s4⟩ := hs
  refine ⟨by rw [h15, upd_ne (by omega)]; exact s1, fun e he1 he2 => ?_, fun e he => ?_, fun k hk => ?_⟩
  · by_cases z : e = d + 1
    · rw [z, h5, h15, h16, h17, upd_at, upd_at, show d + 1 - 1 = d from rfl, upd_ne (by omega)]
      exact ⟨o, ho, h16d, hk, rfl, hw, hw4⟩
    · rw [h5, h15, h16, h17, upd_ne z, upd_ne z, upd_ne (by omega)]
      exact s2 e he1 (by omega)
  · by_cases z : e = d + 1
    · rw [z, h16, upd_at]
      exact .inl rfl
    · rw [h13, h14, h15, h16, upd_ne z, upd_ne z]
      exact s3 e (by omega)
  · rw [h13]
    exact s4 k hk
theorem stk_close {c c' : Nat → Nat → Int32} {d K : Nat} (hs : stk c (d + 1) K) (h5 : c' 5 = c 5) (h13 : c' 13 = c 13) (h14 : c' 14 = c 14) (h15 : c' 15 = c 15) (h16 : c' 16 = c 16) (h17 : c' 17 = c 17) : stk c' d K := by
  obtain ⟨s1, s2, s3, s4⟩ := hs
  unfold stk
  rw [h5, h13, h14, h15, h16, h17]
  exact ⟨s1, fun e he1 he2 => s2 e he1 (by omega), fun e he => s3 e (by omega), s4⟩
theorem cons_close {c c' : Nat → Nat → Int32} {d K : Nat} {B : Nat → Int} {C : Int} (h5 : c' 5 = c 5) (h13 : c' 13 = c 13) (h14 : c' 14 = c 14) (h16 : c' 16 = c 16) (h : Cons c' d K B C) : Cons c (d + 1) K B C := by
  intro k hk
  have := h k hk
  unfold eb at this
  rw [h5, h13, h14, h16] at this
  exact ⟨this.1, fun a b => this.2 a (fun e he => b e (by omega))⟩
theorem cons_open {c c' : Nat → Nat → Int32} {d K : Nat} {B : Nat → Int} {C : Int} (h5 : c' 5 = c 5) (h13 : c' 13 = c 13) (h14 : c' 14 = c 14) (h16 : c' 16 = upd (c 16) (d + 1) (-1)) (h : Cons c' (d + 1) K B C) : Cons c d K B C := by
  intro k hk
  have := h k hk
  unfold eb at this
  rw [h5, h13, h14, h16] at this
  refine ⟨this.1, fun a b => this.2 a (fun e he w => ?_)⟩
  by_cases z : e = d + 1
  · rw [z, upd_at] at w
    have e1 : (-1 : Int32).toInt = -1 := rfl
    rw [e1] at w
    omega
  · rw [upd_ne z] at w
    exact b e (by omega) w
/-- the last statement of a block that closes leads where the block's owner says -/
theorem last_end {c : Nat → Nat → Int32} {d K l : Nat} {B : Nat → Int} {C : Int} (hs : stk c (d + 1) K) (hl : l < K) (h : (c 16 (d + 1)).toInt = (l : Nat)) (hC : Cons c d K B C) : B l = (if c 5 (c 15 (d + 1)).toInt.toNat = 4 then (c 15 (d + 1)).toInt else B (c 15 (d + 1)).toInt.toNat) := by
  have hne := fun e he h1 => stk_ne (e := e) (l := l) hs he hl h1 h
  obtain ⟨s1, s2, s3, s4⟩ := hs
  obtain ⟨o, o1, o2, _⟩ := s2 (d + 1) (by omega) (Nat.le_refl _)
  rcases s3 (d + 1) (Nat.le_refl _) with z | ⟨m, m1, m2, m3, m4⟩
  · exact absurd z (i_m1 h)
  · have em : m = l := by omega
    rw [em] at m3 m4
    rw [(hC l hl).2 m3 (fun e he w => hne e (by omega) w)]
    unfold eb
    rw [m4, if_neg (i_m1 o2)]
theorem last_top {c : Nat → Nat → Int32} {K l : Nat} {B : Nat → Int} {C : Int} (h : c 14 l = -1) (h13 : c 13 l = -1) (hB : c 14 l = -1 → B l = eb c B C l) : B l = C := by
  rw [hB h]
  unfold eb
  rw [if_pos h13]
