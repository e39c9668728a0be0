/-! ===== the text: both hold the same program in the end ===== -/
theorem fin_B {c : Nat → Nat → Int32} {b : Nat → Int32} {K : Nat} (hK : (c 4 0).toInt = (K : Nat)) (h13 : ∀ k, k < K → c 13 k = -1 ∨ ∃ o : Nat, o < k ∧ (c 13 k).toInt = (o : Nat)) (hl : ∀ k, k < K → lkB c b k) (h14 : ∀ k, k < K → pl_ K (c 14 k)) : ∀ k, k < K → 0 ≤ (b k).toInt ∧ (b k).toInt ≤ (K : Nat) := by
  intro k
  induction k using Nat.strongRecOn with
  | _ k ih =>
    intro hk
    obtain ⟨l1, l2⟩ := hl k hk
    by_cases z : c 14 k = -1
    · rw [l2 z]
      rcases h13 k hk with w | ⟨o, o1, o2⟩
      · rw [if_pos w]
        omega
      · rw [if_neg (i_m1 o2), o2, Int.toNat_natCast]
        by_cases y : c 5 o = 4
        · rw [if_pos y]
          omega
        · rw [if_neg y]
          exact ih o o1 (by omega)
    · rw [l1 z]
      rcases h14 k hk with w | w
      · exact absurd w z
      · omega
theorem fin_cons {c : Nat → Nat → Int32} {b : Nat → Int32} {K d : Nat} (hK : (c 4 0).toInt = (K : Nat)) (hl : ∀ k, k < K → lkB c b k) : Cons c d K (fun k => (b k).toInt) (K : Nat) := by
  intro k hk
  obtain ⟨l1, l2⟩ := hl k hk
  refine ⟨fun z => ?_, fun z _ => ?_⟩
  · show (b k).toInt = _
    rw [l1 z]
  · show (b k).toInt = _
    rw [l2 z]
    unfold eb
    by_cases w : c 13 k = -1
    · rw [if_pos w, if_pos w, hK]
    · rw [if_neg w, if_neg w]
      by_cases y : c 5 (c 13 k).toInt.toNat = 4
      · rw [if_pos y, if_pos y]
      · rw [if_neg y, if_neg y]
theorem fin_rho {c : Nat → Nat → Int32} {b : Nat → Int32} {K : Nat} {r : Nat → Int32} (hK : (c 4 0).toInt = (K : Nat)) (hK4 : K ≤ 40) (hs : stk c 0 K) (hl : ∀ k, k < K → lkB c b k) (m : Nat) : rho (fun k => (b k).toInt) (K : Nat) (rE (c 16 0) (-3) K r m) = rho (fun k => (b k).toInt) (K : Nat) (r m) := by
  unfold rE
  rcases hs.2.2.1 0 (Nat.le_refl 0) with y | ⟨l, l1, l2, l3, l4⟩
  · rw [if_pos y]
  · rw [if_neg (i_m1 l2), rho_j _ _ l2 (by omega) ?_]
    rw [rho_3]
    show _ = (b l).toInt
    rw [(hl l l1).2 l3, if_pos (l4.trans hs.1), hK]
theorem fin_ur {c : Nat → Nat → Int32} {K k m : Nat} {r : Nat → Int32} (hK4 : K ≤ 40) (hs : stk c 0 K) (hu : ur_ c r 0 K) (hk : k < K) (hm : m = 3 ∨ m = 4) : -100 < (rE (c 16 0) (-3) K r (12 * k + m)).toInt := by
  have e3 : (-3 : Int32).toInt = -3 := rfl
  unfold rE
  rcases hs.2.2.1 0 (Nat.le_refl 0) with y | ⟨l, l1, l2, l3, l4⟩
  · rw [if_pos y]
    by_cases z : (r (12 * k + m)).toInt ≤ -100
    · obtain ⟨e, p, q1, q2, q3⟩ := hu k m hk hm z
      have e0 : e = 0 := by omega
      rw [e0] at q2
      exact absurd y (i_m1 q2)
    · omega
  · rw [if_neg (i_m1 l2)]
    by_cases x : r (12 * k + m) = -100 - c 16 0
    · rw [show jnv K (-100 - c 16 0) (-3) r (12 * k + m) = -3 from by unfold jnv; rw [if_pos ⟨by omega, by omega, x⟩], e3]
      omega
    · rw [jnv_n x]
      by_cases z : (r (12 * k + m)).toInt ≤ -100
      · obtain ⟨e, p, q1, q2, q3⟩ := hu k m hk hm z
        have e0 : e = 0 := by omega
        rw [e0] at q2
        refine absurd (i_eq.mpr ?_) x
        rw [i_100 l2 (by omega), q3]
        omega
      · omega
theorem fin_con {c : Nat → Nat → Int32} {K m : Nat} {v : Int32} {r : Nat → Int32} (hK4 : K ≤ 40) (hs : stk c 0 K) (hv : -100 < v.toInt) (h : r m = v) : rE (c 16 0) (-3) K r m = v := by
  unfold rE
  rcases hs.2.2.1 0 (Nat.le_refl 0) with y | ⟨l, l1, l2, _⟩
  · rw [if_pos y]; exact h
  · rw [if_neg (i_m1 l2)]
    exact jnv_c l2 (by omega) hv h
theorem fin_v {B : Nat → Int} {K : Nat} {N : Int} {C v : Int32} (hC : C.toInt = (K : Nat)) (h : rho B (K : Nat) v = N) (h0 : 0 ≤ N) (h1 : N ≤ (K : Nat)) (hv : -100 < v.toInt) : (if v = -3 then C else v).toInt = N ∧ (if v = -3 then C else if v = -2 then C + 1 else v).toInt = N := by
  have e3 : (-3 : Int32).toInt = -3 := rfl
  have e2 : (-2 : Int32).toInt = -2 := rfl
  unfold rho at h
  rw [if_neg (by omega)] at h
  by_cases z : v = -3
  · rw [if_pos z, if_pos z]
    rw [if_pos (by rw [z]; rfl)] at h
    omega
  · have z' : ¬ v.toInt = -3 := fun w => z (i_eq.mpr w)
    rw [if_neg z'] at h
    rw [if_neg z, if_neg z]
    by_cases y : v = -2
    · rw [if_pos (by rw [y]; rfl)] at h
      omega
    · have y' : ¬ v.toInt = -2 := fun w => y (i_eq.mpr w)
      rw [if_neg y'] at h
      rw [if_neg y]
      exact ⟨h, h⟩
theorem fin_pK {n q K : Nat} {r3 s r' m : Nat → Int32} {x C : Int32} {c : Nat → Nat → Int32} {o : (Nat → Int32) × (Nat → Int32) × (Nat → Int32)} (hJ : aJ n r3 x c s r' q 0 K) (hC : C.toInt = (K : Nat)) (hl : ∀ k, k < K → lkB c o.2.2 k) (hn : ∀ k, k < K → nfQ c o.2.2 o.1 o.2.1 k) (hm : ∀ k, k < K → mdQ C (rE (c 16 0) (-3) K r') m k) :
    pK (c 4) (c 5) (c 6) (c 7) (c 8) (c 9) (c 10) o.1 o.2.1 m := by
  have e1 : (1 : Int32).toInt = 1 := rfl
  obtain ⟨hE, h8, hd, hd2, hd6, hK, hK2, hK3, hx0, hxq, hs, hL, hc, how, hu⟩ := hJ
  have h13 := hs.2.2.2
  have hB := fin_B hK h13 hl (fun k hk => by obtain ⟨i, _, _, _, _, _, h⟩ := hc k hk; exact h)
  have hCo : Cons c 0 K (fun k => (o.2.2 k).toInt) (K : Nat) := fin_cons hK hl
  refine ⟨by omega, by omega, fun k hk => ?_⟩
  have hk' : k < K := by omega
  obtain ⟨i, i6, i5, hp, p11, p12, p14⟩ := hc k hk'
  obtain ⟨n1, n2, n3, n4⟩ := hn k hk'
  obtain ⟨m3, m4, mo⟩ := hm k hk'
  obtain ⟨l1, l2, l3, l4, l5⟩ := hL _ _ hCo k hk' (fun e e1 e2 => absurd e2 (by omega))
  obtain ⟨b0, b1⟩ := hB k hk'
  have kd : ∀ {y : Int32} {j : Nat}, y.toInt = (j : Nat) → (c 5 k = y ↔ i = j) := fun {y j} hy => by rw [i_eq, hy, i5]; omega
  have k0 := kd (y := 0) (j := 0) rfl
  have k1 := kd (y := 1) (j := 1) rfl
  have k2 := kd (y := 2) (j := 2) rfl
  have k3 := kd (y := 3) (j := 3) rfl
  have k4 := kd (y := 4) (j := 4) rfl
  have k5 := kd (y := 5) (j := 5) rfl
  have k6 := kd (y := 6) (j := 6) rfl
  have mo' : ∀ j, j < 12 → j ≠ 3 → j ≠ 4 → m (12 * k + j) = r' (12 * k + j) := fun j j1 j2 j3 => (mo j j1 j2 j3).trans (rE_o (by omega))
  -- near
  have hN : rho (fun k => (o.2.2 k).toInt) (K : Nat) (rE (c 16 0) (-3) K r' (12 * k + 3)) = (o.1 k).toInt := by
    rw [fin_rho hK hK3 hs hl, l1, n1, hK]
  have hNb : 0 ≤ (o.1 k).toInt ∧ (o.1 k).toInt ≤ (K : Nat) := by
    rw [n1]
    by_cases w : c 5 k = 6
    · rw [if_pos w]; omega
    · rw [if_neg w]
      by_cases y : c 11 k = -1
      · rw [if_pos y]
        by_cases v : c 5 k = 4
        · rw [if_pos v]; omega
        · rw [if_neg v]; exact ⟨b0, b1⟩
      · rw [if_neg y]
        rcases p11 with u | u
        · exact absurd u y
        · omega
  have hN3 : m (12 * k + 3) = o.1 k := by
    rw [m3]
    exact i_eq.mpr (fin_v hC hN hNb.1 hNb.2 (fin_ur hK3 hs hu hk' (.inl rfl))).1
  -- far
  have hF : c 5 k = 2 ∨ c 5 k = 3 ∨ c 5 k = 4 → m (12 * k + 4) = o.2.1 k ∧ 0 ≤ (o.2.1 k).toInt ∧ (o.2.1 k).toInt ≤ (K : Nat) := fun w => by
    have hF1 : rho (fun k => (o.2.2 k).toInt) (K : Nat) (rE (c 16 0) (-3) K r' (12 * k + 4)) = (o.2.1 k).toInt := by
      rw [fin_rho hK hK3 hs hl, l2 w, n3 w]
    have hFb : 0 ≤ (o.2.1 k).toInt ∧ (o.2.1 k).toInt ≤ (K : Nat) := by
      rw [n3 w]
      by_cases y : c 12 k = -1
      · rw [if_pos y]; exact ⟨b0, b1⟩
      · rw [if_neg y]
        rcases p12 with u | u
        · exact absurd u y
        · omega
    refine ⟨?_, hFb⟩
    rw [m4]
    exact i_eq.mpr (fin_v hC hF1 hFb.1 hFb.2 (fin_ur hK3 hs hu hk' (.inr rfl))).2
  have h5 : c 5 k = 5 → m (12 * k + 4) = o.2.1 k ∧ (o.2.1 k).toInt = (K : Int) + 1 := fun w => by
    have a := fin_con hK3 hs (by decide) (l3 w)
    have a2 := n2 w
    rw [hK] at a2
    refine ⟨?_, a2⟩
    rw [m4, a, if_neg (by decide), if_pos rfl]
    exact i_eq.mpr (by rw [i_add (by omega) (by omega), hC, e1, a2])
  have h01 : c 5 k = 0 ∨ c 5 k = 1 ∨ c 5 k = 6 → m (12 * k + 4) = o.2.1 k := fun w => by
    have a := fin_con hK3 hs (by decide) (l4 w)
    have n5 : ¬ c 5 k = 5 := fun y => by rcases w with e | e | e <;> rw [e] at y <;> exact absurd y (by decide)
    have n234 : ¬ (c 5 k = 2 ∨ c 5 k = 3 ∨ c 5 k = 4) := fun y => by rcases w with e | e | e <;> rw [e] at y <;> exact absurd y (by decide)
    rw [m4, a, if_neg (by decide), if_neg (by decide), n4 n5 n234, l5 n234]
  obtain ⟨q0, q1, q2, q3, q4, q5, q6, q7, q8⟩ := hp
  have m0 : m (12 * k) = r' (12 * k) := mo' 0 (by omega) (by omega) (by omega)
  unfold pK1
  rw [hN3, m0, mo' 1 (by omega) (by omega) (by omega), mo' 2 (by omega) (by omega) (by omega), mo' 5 (by omega) (by omega) (by omega), mo' 6 (by omega) (by omega) (by omega), mo' 7 (by omega) (by omega) (by omega), mo' 8 (by omega) (by omega) (by omega), mo' 9 (by omega) (by omega) (by omega), mo' 10 (by omega) (by omega) (by omega), mo' 11 (by omega) (by omega) (by omega), i5, hK]
  refine ⟨i_eq.mpr (by rw [q0, i5]), by omega, by omega, rfl, hNb.1, hNb.2, ?_, fun w => ?_, fun w => ?_, fun w => q1 (by omega), fun w => q2 (by omega), fun w => q3 (by omega), fun w => q4 (by omega), fun w => q5 (by omega), fun w => q6 (by omega), fun w => q7 (by omega), fun w => q8 (by omega)⟩
  · by_cases z5 : c 5 k = 5
    · exact (h5 z5).1
    · by_cases z2 : c 5 k = 2 ∨ c 5 k = 3 ∨ c 5 k = 4
      · exact (hF z2).1
      · refine h01 ?_
        rw [k0, k1, k6]
        rw [k5] at z5
        rw [k2, k3, k4] at z2
        omega
  · exact (hF (by rw [k2, k3, k4]; omega)).2
  · exact (h5 (k5.mpr (by omega))).2
