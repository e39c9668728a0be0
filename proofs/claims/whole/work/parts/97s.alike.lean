/-! ===== the text: contents and open owners ===== -/
theorem pC_eq {i k : Nat} {v6 v7 v8 v9 v10 : Int32} {r r' : Nat → Int32} (h : pC i k v6 v7 v8 v9 v10 r) (he : ∀ m, m < 12 → m ≠ 3 → m ≠ 4 → r' (12 * k + m) = r (12 * k + m)) : pC i k v6 v7 v8 v9 v10 r' := by
  have e0 : r' (12 * k) = r (12 * k) := he 0 (by omega) (by omega) (by omega)
  unfold pC
  rw [e0, he 1 (by omega) (by omega) (by omega), he 2 (by omega) (by omega) (by omega), he 5 (by omega) (by omega) (by omega), he 6 (by omega) (by omega) (by omega), he 7 (by omega) (by omega) (by omega), he 8 (by omega) (by omega) (by omega), he 9 (by omega) (by omega) (by omega), he 10 (by omega) (by omega) (by omega), he 11 (by omega) (by omega) (by omega)]
  exact h
theorem rJ_o {l y : Int32} {K m : Nat} {r : Nat → Int32} (h : ¬ (m % 12 = 3 ∨ m % 12 = 4)) : rJ l y K r m = r m := by
  unfold rJ
  split
  · rfl
  · exact jnv_o (.inl h)
/-- a place among the first K statements, or none -/
def pl_ (K : Nat) (v : Int32) : Prop := v = -1 ∨ (0 ≤ v.toInt ∧ v.toInt < (K : Nat))
theorem pl_s {K : Nat} {v : Int32} (h : pl_ K v) : pl_ (K + 1) v := h.elim .inl (fun w => .inr ⟨w.1, by omega⟩)
/-- what both hold of the statements read so far -/
def cnt (c : Nat → Nat → Int32) (r74 : Nat → Int32) (K : Nat) : Prop := ∀ k, k < K → ∃ i : Nat, i ≤ 6 ∧ (c 5 k).toInt = (i : Nat) ∧ pC i k (c 6 k) (c 7 k) (c 8 k) (c 9 k) (c 10 k) r74 ∧ pl_ K (c 11 k) ∧ pl_ K (c 12 k) ∧ pl_ K (c 14 k)
theorem pl_bg {K k m : Nat} {v : Int32} {r : Nat → Int32} (h : pl_ K (r k)) (hv : v.toInt = (K : Nat)) : pl_ (K + 1) (upd r m v k) := by
  by_cases z : k = m
  · rw [z, upd_at]
    exact .inr ⟨by omega, by omega⟩
  · rw [upd_ne z]
    exact pl_s h
theorem cnt_bgn {c c' : Nat → Nat → Int32} {d K i : Nat} {i' : Int32} {r74 r' : Nat → Int32} (h : cnt c r74 K) (hi : i ≤ 6) (hi' : i'.toInt = (i : Nat)) (hK : (c 4 0).toInt = (K : Nat)) (h5 : c' 5 = bgn c d K i' 5) (h11 : c' 11 = bgn c d K i' 11) (h12 : c' 12 = bgn c d K i' 12) (h14 : c' 14 = bgn c d K i' 14)
    (hrow : ∀ j, j ≠ K → c' 6 j = bgn c d K i' 6 j ∧ c' 7 j = bgn c d K i' 7 j ∧ c' 8 j = bgn c d K i' 8 j ∧ c' 9 j = bgn c d K i' 9 j ∧ c' 10 j = bgn c d K i' 10 j)
    (hr : ∀ j, j < 12 * K → r' j = rJ (c 16 d) (c 4 0) K r74 j) (hp : pC i K (c' 6 K) (c' 7 K) (c' 8 K) (c' 9 K) (c' 10 K) r') : cnt c' r' (K + 1) := by
  intro k hk
  by_cases z : k = K
  · rw [z]
    exact ⟨i, hi, by rw [h5]; show (upd (c 5) K i' K).toInt = _; rw [upd_at]; exact hi', hp, .inl (by rw [h11]; exact upd_at), .inl (by rw [h12]; exact upd_at), .inl (by rw [h14]; exact upd_at)⟩
  · obtain ⟨m, m1, m2, m3, m4, m5, m6⟩ := h k (by omega)
    have e11 : pl_ (K + 1) (c' 11 k) := by
      rw [h11]
      show pl_ (K + 1) (upd (bg11 (c 15 d) (c 16 d) (c 17 d) (c 4 0) (c 11)) K (-1) k)
      rw [upd_ne z]
      unfold bg11
      split
      · exact pl_bg m4 hK
      · exact pl_s m4
    have e12 : pl_ (K + 1) (c' 12 k) := by
      rw [h12]
      show pl_ (K + 1) (upd (bg12 (c 15 d) (c 16 d) (c 17 d) (c 4 0) (c 12)) K (-1) k)
      rw [upd_ne z]
      unfold bg12
      split
      · exact pl_bg m5 hK
      · exact pl_s m5
    have e14 : pl_ (K + 1) (c' 14 k) := by
      rw [h14]
      show pl_ (K + 1) (upd (bg14 (c 16 d) (c 4 0) (c 14)) K (-1) k)
      rw [upd_ne z]
      unfold bg14
      split
      · exact pl_s m6
      · exact pl_bg m6 hK
    obtain ⟨g6, g7, g8, g9, g10⟩ := hrow k z
    have e5 : c' 5 k = c 5 k := by rw [h5]; exact upd_ne z
    have e6 : c' 6 k = c 6 k := by rw [g6]; exact upd_ne z
    have e7 : c' 7 k = c 7 k := by rw [g7]; exact upd_ne z
    have e8 : c' 8 k = c 8 k := by rw [g8]; exact upd_ne z
    have e9 : c' 9 k = c 9 k := by rw [g9]; exact upd_ne z
    have e10 : c' 10 k = c 10 k := by rw [g10]; exact upd_ne z
    refine ⟨m, m1, by rw [e5]; exact m2, ?_, e11, e12, e14⟩
    rw [e6, e7, e8, e9, e10]
    refine pC_eq m3 (fun j j1 j2 j3 => ?_)
    rw [hr _ (by omega), rJ_o (by omega)]
/-- the owners of the open blocks -/
def own_ (c : Nat → Nat → Int32) (r74 : Nat → Int32) (d K : Nat) : Prop := ∀ e, 1 ≤ e → e ≤ d → ∀ o : Nat, (c 15 e).toInt = (o : Nat) → (c 17 e = 0 → r74 (12 * o + 4) = -100 - c 15 e ∧ c 12 o = -1) ∧ (c 17 e = 1 → ∀ B C, Cons c d K B C → rho B C (r74 (12 * o + 3)) = (if c 11 o = -1 then B o else (c 11 o).toInt))
theorem stk_inj {c : Nat → Nat → Int32} {d K e : Nat} (hs : stk c d K) (he : e ≤ d) (h : (c 15 e).toInt = (c 15 d).toInt) : e = d := by
  by_cases z : e = d
  · exact z
  · have := stk_lt hs (d - e - 1) e (by omega)
    rw [show e + (d - e - 1) + 1 = d by omega] at this
    omega
theorem own_bgn {c c' : Nat → Nat → Int32} {d K : Nat} {i : Int32} {r74 r' : Nat → Int32} (hs : stk c d K) (hK : (c 4 0).toInt = (K : Nat)) (hK4 : K < 40)
    (h5 : c' 5 = bgn c d K i 5) (h11 : c' 11 = bgn c d K i 11) (h12 : c' 12 = bgn c d K i 12) (h13 : c' 13 = bgn c d K i 13) (h14 : c' 14 = bgn c d K i 14) (h15 : c' 15 = c 15) (h16 : c' 16 = bgn c d K i 16) (h17 : c' 17 = c 17)
    (hr : ∀ j, j < 12 * K → r' j = rJ (c 16 d) (c 4 0) K r74 j) (h : own_ c r74 d K) : own_ c' r' d (K + 1) := by
  intro e he1 he2 o ho
  rw [h15] at ho
  obtain ⟨o', o1, o2, o3, o4, o5, o6⟩ := hs.2.1 e he1 he2
  have eo : o' = o := by omega
  subst eo
  obtain ⟨g0, g1⟩ := h e he1 he2 o' ho
  rw [h17, h15]
  have inj : ∀ p : Nat, (c 15 d).toInt = (p : Nat) → p = o' → e = d := fun p hp hpo => stk_inj hs he2 (by omega)
  have hl : ¬ (c 16 d).toInt = (o' : Nat) := fun w => stk_ne hs (show e - 1 < d by omega) o1 (by rw [o4]; exact o2) w
  refine ⟨fun z => ?_, fun z B C hC => ?_⟩
  · obtain ⟨a, b⟩ := g0 z
    refine ⟨?_, ?_⟩
    · rw [hr _ (by omega)]
      unfold rJ
      rcases hs.2.2.1 d (Nat.le_refl d) with y | ⟨l, l1, l2, _⟩
      · rw [if_pos y]; exact a
      · rw [if_neg (i_m1 l2), jnv_n (fun w => by
          rw [a] at w
          have w' := congrArg Int32.toInt w
          rw [i_100 o2 (by omega), i_100 l2 (by omega)] at w'
          exact hl (by omega))]
        exact a
    · rw [h12]
      show upd (bg12 (c 15 d) (c 16 d) (c 17 d) (c 4 0) (c 12)) K (-1) o' = _
      rw [upd_ne (by omega)]
      unfold bg12
      split
      · rename_i w
        have hd0 : ¬ d = 0 := fun y => w.2.1 (by rw [y]; exact hs.1)
        obtain ⟨p, p1, p2, _⟩ := hs.2.1 d (by omega) (Nat.le_refl d)
        rw [i_cl, p2]
        rw [upd_ne (fun y => by
          have := inj p p2 (by rw [y]; rfl)
          rw [this] at z
          exact w.2.2 z)]
        exact b
      · exact b
  · obtain ⟨hC1, hB⟩ := cons_bgn hs hK h5 h13 h14 h16 hC
    have a := g1 z B C hC1
    have e11 : c' 11 o' = c 11 o' := by
      rw [h11]
      show upd (bg11 (c 15 d) (c 16 d) (c 17 d) (c 4 0) (c 11)) K (-1) o' = _
      rw [upd_ne (by omega)]
      unfold bg11
      split
      · rename_i w
        have hd0 : ¬ d = 0 := fun y => w.2.1 (by rw [y]; exact hs.1)
        obtain ⟨p, p1, p2, _⟩ := hs.2.1 d (by omega) (Nat.le_refl d)
        rw [i_cl, p2]
        rw [upd_ne (fun y => by
          have := inj p p2 (by rw [y]; rfl)
          rw [this] at z
          rw [w.2.2] at z
          exact absurd z (by decide))]
      · rfl
    rw [e11, hr _ (by omega), ← a]
    unfold rJ
    rcases hs.2.2.1 d (Nat.le_refl d) with y | ⟨l, l1, l2, _⟩
    · rw [if_pos y]
    · rw [if_neg (i_m1 l2), rho_j B C l2 (by omega) (by rw [rho_n B C (by omega), hK]; exact (hB l l1 l2).symm)]
/-- a way that is not yet known waits for the latest statement of an open row -/
def ur_ (c : Nat → Nat → Int32) (r74 : Nat → Int32) (d K : Nat) : Prop := ∀ k m : Nat, k < K → (m = 3 ∨ m = 4) → (r74 (12 * k + m)).toInt ≤ -100 → ∃ e l : Nat, e ≤ d ∧ (c 16 e).toInt = (l : Nat) ∧ (r74 (12 * k + m)).toInt = -100 - (l : Int)
theorem ur_bgn {c c' : Nat → Nat → Int32} {d K : Nat} {i : Int32} {r74 r' : Nat → Int32} (hs : stk c d K) (hK : (c 4 0).toInt = (K : Nat)) (hK4 : K < 40) (h16 : c' 16 = bgn c d K i 16) (hr : ∀ j, j < 12 * K → r' j = rJ (c 16 d) (c 4 0) K r74 j)
    (h3 : r' (12 * K + 3) = -100 - c 4 0 ∨ -100 < (r' (12 * K + 3)).toInt) (h4 : r' (12 * K + 4) = -100 - c 4 0 ∨ -100 < (r' (12 * K + 4)).toInt) (h : ur_ c r74 d K) : ur_ c' r' d (K + 1) := by
  have e16 : ∀ e, e ≠ d → c' 16 e = c 16 e := fun e he => by rw [h16]; exact upd_ne he
  have e16d : (c' 16 d).toInt = (K : Nat) := by rw [h16]; show (upd (c 16) d (c 4 0) d).toInt = _; rw [upd_at]; exact hK
  intro k m hk hm hv
  by_cases z : k = K
  · subst z
    have hw : r' (12 * k + m) = -100 - c 4 0 ∨ -100 < (r' (12 * k + m)).toInt := by
      rcases hm with e | e <;> subst e
      · exact h3
      · exact h4
    rcases hw with w | w
    · exact ⟨d, k, Nat.le_refl d, e16d, by rw [w]; exact i_100 hK (by omega)⟩
    · omega
  · have hk' : k < K := by omega
    rw [hr _ (by omega)] at hv ⊢
    unfold rJ at hv ⊢
    rcases hs.2.2.1 d (Nat.le_refl d) with y | ⟨l, l1, l2, _⟩
    · rw [if_pos y] at hv ⊢
      obtain ⟨e, l, q1, q2, q3⟩ := h k m hk' hm hv
      have ne : e ≠ d := fun w => by rw [w] at q2; exact i_m1 q2 y
      exact ⟨e, l, q1, by rw [e16 e ne]; exact q2, q3⟩
    · rw [if_neg (i_m1 l2)] at hv ⊢
      by_cases x : r74 (12 * k + m) = -100 - c 16 d
      · rw [show jnv (K + 1) (-100 - c 16 d) (c 4 0) r74 (12 * k + m) = c 4 0 from by unfold jnv; rw [if_pos ⟨by omega, by omega, x⟩]] at hv
        omega
      · rw [jnv_n x] at hv ⊢
        obtain ⟨e, p, q1, q2, q3⟩ := h k m hk' hm hv
        have ne : e ≠ d := fun w => by
          rw [w] at q2
          refine x (i_eq.mpr ?_)
          rw [i_100 l2 (by omega), q3]
          omega
        exact ⟨e, p, q1, by rw [e16 e ne]; exact q2, q3⟩
theorem ur_open {c c' : Nat → Nat → Int32} {d K : Nat} {r : Nat → Int32} (h16 : ∀ e, e ≤ d → c' 16 e = c 16 e) (h : ur_ c r d K) : ur_ c' r (d + 1) K := by
  intro k m hk hm hv
  obtain ⟨e, l, q1, q2, q3⟩ := h k m hk hm hv
  exact ⟨e, l, by omega, by rw [h16 e q1]; exact q2, q3⟩
theorem ur_0 (c : Nat → Nat → Int32) (r : Nat → Int32) (d : Nat) : ur_ c r d 0 := fun k m hk => absurd hk (by omega)
