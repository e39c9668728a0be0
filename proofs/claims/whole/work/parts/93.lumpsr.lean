/-! ===== lumping: the reference ===== -/
/-- the graph, for the reference's lumping -/
def vG (n : Nat) (na : Nat → Nat) (tg : Nat → Nat → Nat) (sh : Nat → Nat → Int) (r32 r33 r34 r71 r80 r81 r83 r84 r85 : Nat → Int32) : Prop := n ≤ 200 ∧ (r71 24).toInt = (n : Nat) ∧ r71 4 = r32 7 ∧ rA n na tg r83 r84 ∧ (∀ s, s < n → ∀ k, k < na s → (r85 (10 * s + k)).toInt = sh s k ∧ 1 ≤ sh s k ∧ sh s k ≤ 60) ∧ ∀ s, s < n → r80 s = r33 s ∧ r81 s = r34 s ∧ sx (r34 s) ∧ (r33 s).toInt ≤ (r32 7).toInt + 1 ∧ ((r33 s).toInt < (r32 7).toInt ↔ 0 < na s)
theorem vG_t {n : Nat} {na : Nat → Nat} {tg : Nat → Nat → Nat} {sh : Nat → Nat → Int} {r32 r33 r34 r71 r80 r81 r83 r84 r85 : Nat → Int32} (h : vG n na tg sh r32 r33 r34 r71 r80 r81 r83 r84 r85) : ∀ s, s < n → ∀ k, k < na s → tg s k < n := fun s hs k hk => ((h.2.2.2.1 s hs).2.2 k hk).2
theorem kd_11 {n : Nat} {na : Nat → Nat} {tg : Nat → Nat → Nat} {sh : Nat → Nat → Int} {r32 r33 r34 r71 r80 r81 r83 r84 r85 : Nat → Int32} (h : vG n na tg sh r32 r33 r34 r71 r80 r81 r83 r84 r85) (v : Nat) {s : Nat} (hs : s < n) : (0 < na s ↔ kdF r32 r33 r34 v s = 11) := by
  obtain ⟨-, -, -, -, -, h6⟩ := h
  obtain ⟨a1, a2, a3, a4, a5⟩ := h6 s hs
  have hd := dgt_b a3.1 v
  unfold kdF
  by_cases e : r33 s = r32 7
  · rw [if_pos e]
    rw [e] at a5
    omega
  · rw [if_neg e]
    have e' : ¬ (r33 s).toInt = (r32 7).toInt := fun z => e (i_eq.mpr z)
    by_cases e2 : r33 s ≤ r32 7
    · have := i_le.mp e2
      rw [if_pos e2]
      omega
    · have : ¬ (r33 s).toInt ≤ (r32 7).toInt := fun z => e2 (i_le.mpr z)
      rw [if_neg e2]
      omega
theorem g11_near (F : Nat) {n : Nat} {na : Nat → Nat} {tg : Nat → Nat → Nat} {sh : Nat → Nat → Int} {r32 r33 r34 r71 r80 r81 r83 r84 r85 r87 : Nat → Int32} (h : vG n na tg sh r32 r33 r34 r71 r80 r81 r83 r84 r85) (ht : tens r87) {x1 x2 x3 : Int32} {a b : Nat} (hv : vr x3) (hx1 : x1.toInt = (a : Nat)) (hx2 : x2.toInt = (b : Nat)) (ha : a < n) (hb : b < n) : fnX11_areNear F r71 r80 r81 r83 r87 x1 x2 x3 = some (if kdF r32 r33 r34 x3.toNatClampNeg a = kdF r32 r33 r34 x3.toNatClampNeg b then 1 else 0) := by
  have ka := kd_11 h x3.toNatClampNeg ha
  have kb := kd_11 h x3.toNatClampNeg hb
  have hG := h
  obtain ⟨h1, h2, h3, h4, h5, h6⟩ := h
  obtain ⟨a1, a2, a3, a4, a5⟩ := h6 a ha
  obtain ⟨b1, b2, b3, b4, b5⟩ := h6 b hb
  have ra := (h4 a ha).1
  have rb := (h4 b hb).1
  have e0 : (0 : Int32).toInt = 0 := rfl
  have c1 : x1.toNatClampNeg = a := by rw [i_cl, hx1]; rfl
  have c2 : x2.toNatClampNeg = b := by rw [i_cl, hx2]; rfl
  have ib1 : mj_ib x1 200 = true := mj_ib_of (by omega) (by omega)
  have ib2 : mj_ib x2 200 = true := mj_ib_of (by omega) (by omega)
  have jn : jnX11_areNear_18 F r71 r80 r81 r83 r87 x1 x2 = some (if 0 < na a ∧ 0 < na b then 1 else 0) := by
    unfold jnX11_areNear_18
    rw [if_pos ib1, c1]
    by_cases q1 : r83 a ≤ 0
    · have := i_le.mp q1
      rw [if_pos q1, if_neg (fun z => by omega)]
    · have q1' : ¬ (r83 a).toInt ≤ (0 : Int32).toInt := fun z => q1 (i_le.mpr z)
      rw [if_neg q1, if_pos ib2, c2]
      by_cases q2 : r83 b ≤ 0
      · have := i_le.mp q2
        rw [if_pos q2, if_neg (fun z => by omega)]
      · have q2' : ¬ (r83 b).toInt ≤ (0 : Int32).toInt := fun z => q2 (i_le.mpr z)
        rw [if_neg q2, if_pos ⟨by omega, by omega⟩]
  unfold fnX11_areNear
  rw [if_pos ib1, c1]
  by_cases q1 : 0 < r83 a
  · have q1' := i_lt.mp q1
    rw [if_pos q1, jn]
    by_cases q2 : 0 < na b
    · rw [if_pos ⟨by omega, q2⟩, if_pos (by rw [ka.mp (by omega), kb.mp q2])]
    · rw [if_neg (fun z => q2 z.2), if_neg (fun z => q2 (kb.mpr (by rw [← z]; exact ka.mp (by omega))))]
  · have q1' : ¬ (0 : Int32).toInt < (r83 a).toInt := fun z => q1 (i_lt.mpr z)
    have na0 : na a = 0 := by omega
    rw [if_neg q1, if_pos ib2, c2]
    by_cases q2 : r83 b ≤ 0
    · have q2' := i_le.mp q2
      have nb0 : na b = 0 := by omega
      rw [if_pos q2, if_pos ib1, if_pos ib2, a1, b1]
      by_cases q3 : r33 a = r33 b
      · rw [if_pos q3, g11_isEnd F hx1 (by omega) h3 a1, Option.bind_some]
        by_cases q4 : en_ r33 (r32 7) a = true
        · have q5 : r33 a = r32 7 := of_decide_eq_true q4
          rw [if_pos q4, if_neg (show ¬ (1 : Int32) = 0 from by decide), if_pos ib1, a2, g_valueIn F ht _ hv, Option.bind_some, if_pos ib2, b2, g_valueIn F ht _ hv, Option.bind_some]
          have hda := dgt_b a3.1 x3.toNatClampNeg
          have hdb := dgt_b b3.1 x3.toNatClampNeg
          unfold kdF
          rw [if_pos q5, if_pos (show r33 b = r32 7 by rw [← q3]; exact q5)]
          by_cases q6 : dgt (r34 a) x3.toNatClampNeg = dgt (r34 b) x3.toNatClampNeg
          · rw [if_pos q6, if_pos (by rw [q6])]
          · rw [if_neg q6, if_neg (fun z => q6 (i_eq.mpr (by omega)))]
        · have q5 : ¬ r33 a = r32 7 := fun z => q4 (decide_eq_true z)
          rw [if_neg q4, if_pos rfl]
          have hk : kdF r32 r33 r34 x3.toNatClampNeg a = kdF r32 r33 r34 x3.toNatClampNeg b := by
            unfold kdF
            rw [if_neg q5, if_neg (show ¬ r33 b = r32 7 by rw [← q3]; exact q5), q3]
          rw [if_pos hk]
      · rw [if_neg q3]
        have hk : ¬ kdF r32 r33 r34 x3.toNatClampNeg a = kdF r32 r33 r34 x3.toNatClampNeg b := by
          have q3' : ¬ (r33 a).toInt = (r33 b).toInt := fun z => q3 (i_eq.mpr z)
          have hda := dgt_b a3.1 x3.toNatClampNeg
          have hdb := dgt_b b3.1 x3.toNatClampNeg
          unfold kdF
          by_cases p1 : r33 a = r32 7
          · have p2 : ¬ r33 b = r32 7 := fun z => q3 (p1.trans z.symm)
            have p3 : ¬ r33 b ≤ r32 7 := fun z => by
              have z1 := i_le.mp z
              have z2 : ¬ (r33 b).toInt = (r32 7).toInt := fun w => p2 (i_eq.mpr w)
              omega
            rw [if_pos p1, if_neg p2, if_neg p3]
            omega
          · have p3 : ¬ r33 a ≤ r32 7 := fun z => by
              have z1 := i_le.mp z
              have z2 : ¬ (r33 a).toInt = (r32 7).toInt := fun w => p1 (i_eq.mpr w)
              omega
            have p4 : ¬ (r33 a).toInt ≤ (r32 7).toInt := fun z => p3 (i_le.mpr z)
            have p5 : r33 b = r32 7 := i_eq.mpr (by omega)
            rw [if_neg p1, if_neg p3, if_pos p5]
            omega
        rw [if_neg hk]
    · have q2' : ¬ (r83 b).toInt ≤ (0 : Int32).toInt := fun z => q2 (i_le.mpr z)
      rw [if_neg q2, jn, if_neg (fun z => by omega), if_neg (fun z => by have := ka.mpr (by rw [z]; exact kb.mp (by omega)); omega)]
theorem s11_near0 (F : Nat) (hF : 600 ≤ F) {n : Nat} {na : Nat → Nat} {tg : Nat → Nat → Nat} {sh : Nat → Nat → Int} {r32 r33 r34 r71 r80 r81 r83 r84 r85 r87 r93 : Nat → Int32} (h : vG n na tg sh r32 r33 r34 r71 r80 r81 r83 r84 r85) (ht : tens r87) {x1 : Int32} (hv : vr x1) {c : Nat → Nat} (hc : lst n (kdE (kdF r32 r33 r34 x1.toNatClampNeg)) c) :
    sp (mj_it (mj_u2 (fun z0 z1 => bdX11_parts_2 F r71 r80 r81 r83 r87 x1 z0 z1)) F ((0 : Int32), r93)) (fun e => ∀ i, i < n → (e i).toInt = (c i : Nat)) := by
  have e0 : (0 : Int32).toInt = 0 := rfl
  obtain ⟨h1, h2, -⟩ := id h
  refine sp_cnt (fun s : Int32 × (Nat → Int32) => s.1) n (by omega) (fun k s => ∀ i, i < k → (s.2 i).toInt = (c i : Nat)) ?_ F 0 _ (by omega) e0 (fun i hi => absurd hi (Nat.not_lt_zero i)) (by omega)
  rintro k ⟨x, a93⟩ hk hx hcx hxs hJ
  refine sp_u2 ?_
  dsimp only at hx hcx hxs hJ
  unfold bdX11_parts_2
  refine sp_ite (fun hz => sp_some ?_) (fun hz => ?_)
  · have := i_le.mp hz
    have : k = n := by omega
    subst this
    exact hJ
  · have hz2 : ¬ (r71 24).toInt ≤ x.toInt := fun z => hz (i_le.mpr z)
    have hkn : k < n := by omega
    obtain ⟨g1, g2, g3⟩ := hc k hkn
    refine sp_bind (sp_cnt (fun s : Int32 => s) (c k) (by omega) (fun _ _ => True) (Q := fun e : Int32 => e.toInt = (c k : Nat)) ?_ F 0 _ (by omega) e0 trivial (by omega)) (fun o ho => sp_pos (mj_ib_of (by omega) (by omega)) (sp_some ⟨hkn, rfl, fun i hi => ?_⟩))
    · rintro q y hq hy hcy hys -
      unfold bdX11_parts_12
      rw [g11_near F h ht hv hx hy hkn (by omega), Option.bind_some]
      by_cases e : q = c k
      · rw [if_pos (show kdF r32 r33 r34 x1.toNatClampNeg k = kdF r32 r33 r34 x1.toNatClampNeg q by rw [e]; exact g1), if_neg (show ¬ (1 : Int32) = 0 from by decide)]
        exact sp_some (by show y.toInt = _; rw [hy, e])
      · rw [if_neg (show ¬ kdF r32 r33 r34 x1.toNatClampNeg k = kdF r32 r33 r34 x1.toNatClampNeg q from g3 q (by omega)), if_pos rfl]
        exact sp_some ⟨by omega, rfl, trivial⟩
    · dsimp only
      rw [hcx]
      by_cases e : i = k
      · rw [e, upd_at]; exact ho
      · rw [upd_ne e]; exact hJ i (by omega)
theorem i_accm {a y : Int32} {A Y : Int} (ha : a.toInt = A) (hy : y.toInt = Y) (hA : -1000000 ≤ A ∧ A ≤ 1000000) (hY : 0 ≤ Y ∧ Y ≤ 60) : (a + y).toInt = A + Y ∧ (a - y).toInt = A - Y := by
  constructor
  · rw [i_add (by rw [ha, hy]; omega) (by rw [ha, hy]; omega), ha, hy]
  · rw [i_sub (by rw [ha, hy]; omega) (by rw [ha, hy]; omega), ha, hy]
