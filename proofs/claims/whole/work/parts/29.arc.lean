/-! ===== an arc is laid, in both ===== -/
theorem gF_arc {C : Int} {i n n' base m : Nat} {acc : Int} {r37 r32 r33 r34 r35 r38 r39 r40 r71 r80 r81 r82 r83 r84 r85 a32 b71 r33' r34' r35' r40' r80' r81' r82' : Nat → Int32} (h : gF C i n base m acc r37 r32 r33 r34 r35 r38 r39 r40 r71 r80 r81 r82 r83 r84 r85) (hi : i < n) (hm : m < 10) (hnn : n ≤ n') (hn2 : n' ≤ 200) (ha : (a32 2).toInt = n' ∧ a32 3 = r32 3 ∧ a32 6 = r32 6 ∧ a32 7 = r32 7) (hb : (b71 24).toInt = n' ∧ b71 25 = r71 25 ∧ b71 21 = r71 21 ∧ b71 4 = r71 4) (h33 : ∀ s, s < n → r33' s = r33 s) (hS : ∀ s, s < n' → sD C s r33' r34' r35' r80' r81' r82') (hH : hQ n' r33' r34' r40') {t w : Int32} (ht : 0 ≤ t.toInt ∧ t.toInt < n') (hw : 1 ≤ w.toInt ∧ w.toInt ≤ 60) :
    gF C i n' base (m + 1) (acc + w.toInt) r37 (upd a32 3 (a32 3 + 1)) r33' r34' r35' (upd r38 (base + m) t) (upd r39 (base + m) w) r40' (upd b71 25 (b71 25 + 1)) r80' r81' r82' (upd r83 i (r83 i + 1)) (upd r84 (10 * i + m) t) (upd r85 (10 * i + m) w) := by
  obtain ⟨⟨c1, c2, c3, c4⟩, ⟨d0, d1, d2, d3, d4, d5⟩, d6, d7, ⟨f1, f2, f3, f4, f5, f6⟩, f7, f8, f9, f10⟩ := h
  have e1 : (1 : Int32).toInt = 1 := rfl
  refine ⟨⟨by omega, hn2, ?_, ?_⟩, ⟨d0, d1, ?_, ?_, ?_, ?_⟩, hS, hH, ⟨?_, ?_, f3, by omega, ?_, ?_⟩, fun k hk => ?_, fun s hs => ?_, f9, f10⟩
  · rw [upd_ne (by omega)]; exact ha.1
  · rw [upd_ne (by omega)]; exact hb.1
  · rw [upd_ne (by omega), ha.2.2.2]; exact d2
  · rw [upd_ne (by omega), hb.2.2.2]; exact d3
  · rw [upd_ne (by omega), ha.2.2.1]; exact d4
  · rw [upd_ne (by omega), hb.2.2.1]; exact d5
  · rw [upd_at, ha.2.1, i_add (by omega) (by omega), f1, e1]; omega
  · rw [upd_at, hb.2.1, i_add (by omega) (by omega), f2, e1]; omega
  · rw [upd_at, i_add (by omega) (by omega), f5, e1]; omega
  · show ssum (upd r39 (base + m) w) base m + (upd r39 (base + m) w (base + m)).toInt = acc + w.toInt
    rw [ssum_congr m (fun k hk => upd_ne (by omega)), upd_at, f6]
  · by_cases hkm : k = m
    · subst hkm
      rw [upd_at, upd_at, upd_at, upd_at]
      exact ⟨rfl, rfl, ht.1, ht.2, hw.1, hw.2⟩
    · obtain ⟨g1, g2, g3, g4, g5, g6⟩ := f7 k (by omega)
      rw [upd_ne (by omega), upd_ne (by omega), upd_ne (by omega), upd_ne (by omega)]
      exact ⟨g1, g2, g3, by omega, g5, g6⟩
  · exact aD_up (f8 s hs) hnn (h33 s (by omega)) (upd_ne (by omega)) (fun j hj => ⟨upd_ne (by omega), upd_ne (by omega)⟩) (fun k hk => ⟨upd_ne (by omega), upd_ne (by omega)⟩)
theorem s2_lead (F : Nat) (hF : 600 ≤ F) {C : Int} {i n base m : Nat} {acc : Int} {r37 r32 r33 r34 r35 r38 r39 r40 r71 r80 r81 r82 r83 r84 r85 : Nat → Int32} (h : gF C i n base m acc r37 r32 r33 r34 r35 r38 r39 r40 r71 r80 r81 r82 r83 r84 r85) (hi : i < n) (hm : m < 10) {xi p v w : Int32} (hxi : xi.toInt = i) (hp : 0 ≤ p.toInt ∧ p.toInt ≤ C + 1) (hv : sx v) (hw : 1 ≤ w.toInt ∧ w.toInt ≤ 60) :
    sp2 (fnX4_lead F r32 r33 r34 r35 r38 r39 r40 xi p v w) (fnX11_lead F r71 r80 r81 r82 r83 r84 r85 xi p v w) (afF C i base (m + 1) (acc + w.toInt) r37 r32 r71 (r33 i) (r34 i)) := by
  have hcopy := h
  obtain ⟨⟨c1, c2, c3, c4⟩, ⟨d0, d1, d2, d3, d4, d5⟩, d6, d7, ⟨f1, f2, f3, f4, f5, f6⟩, f7, f8, f9, f10⟩ := h
  have e1 : (1 : Int32).toInt = 1 := rfl
  have e0 : (0 : Int32).toInt = 0 := rfl
  have e10 : (10 : Int32).toInt = 10 := rfl
  have e2000 : (2000 : Int32).toInt = 2000 := rfl
  have hw0 : ¬ w = 0 := fun z => by have := i_eq.mp z; omega
  have hix : mj_ib xi 200 = true := mj_ib_of (by omega) (by omega)
  have hcx : xi.toNatClampNeg = i := by rw [i_cl, hxi]; rfl
  -- the value that is held
  let v' : Int32 := if p = (upd r71 26 xi) 4 + 1 then 0 else v
  have hp1 : ((upd r71 26 xi) 4 + 1).toInt = C + 1 := by rw [upd_ne (by omega), i_add (by omega) (by omega), d3, e1]
  have hl : fnX4_lead F r32 r33 r34 r35 r38 r39 r40 xi p v w = jnX4_lead_28 F xi w p v' r32 r33 r34 r35 r38 r39 r40 := by
    unfold fnX4_lead
    rw [if_neg hw0, if_pos d4]
    by_cases hpc : p ≤ r32 7
    · have := i_le.mp hpc
      have : v' = v := if_neg (fun z => by have := i_eq.mp z; omega)
      rw [if_pos hpc, this]
    · have h9 : ¬ p.toInt ≤ (r32 7).toInt := fun z => hpc (i_le.mpr z)
      have : v' = 0 := if_pos (i_eq.mpr (by omega))
      rw [if_neg hpc, this]
  have hv' : sx v' ∧ (p.toInt = C + 1 → v' = 0) := by
    by_cases hpc : p = (upd r71 26 xi) 4 + 1
    · have : v' = 0 := if_pos hpc
      rw [this]
      exact ⟨⟨by decide, by decide⟩, fun _ => rfl⟩
    · have : v' = v := if_neg hpc
      rw [this]
      exact ⟨hv, fun z => absurd (i_eq.mpr (by omega)) hpc⟩
  obtain ⟨s1, s2, s3, s4, s5, s6, s7, s8, s9⟩ := d6 i hi
  have hst := s2_state F hF (n := n) c2 (r32 := r32) (r33 := r33) (r34 := r34) (r35 := r35) (r40 := r40) (r71 := upd r71 26 xi) (r80 := r80) (r81 := r81) (r82 := r82) d7 c3 (by rw [upd_ne (by omega)]; exact c4) (fun s hs => ⟨(d6 s hs).1, (d6 s hs).2.1⟩) (p := p) (v := v') (v0 := v) (lv := r35 i + 1) rfl ⟨fun z => by omega, fun _ => ⟨by rw [upd_at]; omega, by rw [upd_at]; omega, by rw [upd_at, hcx, s3]⟩⟩
  rw [hl]
  unfold jnX4_lead_28 fnX11_lead
  refine sp2_lp hix ?_
  refine sp2_rn hw0 (sp2_rp d5 ?_)
  rw [hcx]
  refine sp2_bind hst ?_
  have i0 : (10 * xi).toInt = 10 * i := by rw [i_mul (by rw [e10]; omega) (by rw [e10]; omega), hxi, e10]
  have i1 : (10 * xi + r83 i).toInt = 10 * i + m := by rw [i_add (by omega) (by omega), i0, f5]
  have ci : (10 * xi + r83 i).toNatClampNeg = 10 * i + m := by rw [i_cl, i1]; omega
  have hib : mj_ib (10 * xi + r83 i) 2000 = true := mj_ib_of (by omega) (by omega)
  rintro ⟨a1, a2⟩ ⟨b1, b2⟩ hab
  rcases hab with ⟨s, q1, q2, q3, q4, q5, q6, q7⟩ | ⟨q1, q2, q3, r40', q6, q7, q8⟩ | ⟨q1, q2, q6, q7⟩
  · dsimp only at q2 q3 q6 q7
    subst q6; subst q7; subst q3
    have hc3 : (r32 3).toNatClampNeg = base + m := by rw [i_cl, f1]; omega
    refine sp2_ln (fun z => ?_) (sp2_lp (i_lt.mpr ?_) (sp2_lp (mj_ib_of ?_ ?_) (sp2_lp (mj_ib_of ?_ ?_) (sp2_rp hix (sp2_rp hib (sp2_rp hix (sp2_rp hib (sp2_rp hix (sp2_rp hix (sp2_some ?_))))))))))
    · have := i_eq.mp z
      have e9 : (-1 : Int32).toInt = -1 := rfl
      dsimp only at this
      omega
    · dsimp only; omega
    · dsimp only; omega
    · dsimp only; omega
    · dsimp only; omega
    · dsimp only; omega
    · dsimp only
      rw [hc3, ci]
      refine ⟨⟨fun k x y z => upd_ne y, fun k x y z u => ?_⟩, Or.inl ⟨n, hi, rfl, rfl, ?_⟩⟩
      · show upd (upd r71 26 xi) 25 _ k = r71 k
        rw [upd_ne z, upd_ne u]
      · exact gF_arc hcopy hi hm (Nat.le_refl n) c2 ⟨c3, rfl, rfl, rfl⟩ ⟨by rw [upd_ne (by omega)]; exact c4, upd_ne (by omega), upd_ne (by omega), upd_ne (by omega)⟩ (fun _ _ => rfl) d6 d7 ⟨by omega, by omega⟩ hw
  · dsimp only at q2 q3 q6 q7
    subst q6; subst q7; subst q3
    have hc3 : (upd r32 2 (r32 2 + 1) 3).toNatClampNeg = base + m := by rw [upd_ne (by omega), i_cl, f1]; omega
    have h3 : (upd r32 2 (r32 2 + 1) 3).toInt = base + m := by rw [upd_ne (by omega), f1]
    refine sp2_ln (fun z => ?_) (sp2_lp (i_lt.mpr ?_) (sp2_lp (mj_ib_of ?_ ?_) (sp2_lp (mj_ib_of ?_ ?_) (sp2_rp hix (sp2_rp hib (sp2_rp hix (sp2_rp hib (sp2_rp hix (sp2_rp hix (sp2_some ?_))))))))))
    · have := i_eq.mp z
      have e9 : (-1 : Int32).toInt = -1 := rfl
      dsimp only at this
      omega
    · dsimp only; omega
    · dsimp only; omega
    · dsimp only; omega
    · dsimp only; omega
    · dsimp only; omega
    · dsimp only
      rw [hc3, ci]
      refine ⟨⟨fun k x y z => ?_, fun k x y z u => ?_⟩, Or.inl ⟨n + 1, by omega, upd_ne (by omega), upd_ne (by omega), ?_⟩⟩
      · show upd (upd r32 2 _) 3 _ k = r32 k
        rw [upd_ne y, upd_ne x]
      · show upd (upd (upd r71 26 xi) 24 _) 25 _ k = r71 k
        rw [upd_ne z, upd_ne y, upd_ne u]
      · refine gF_arc hcopy hi hm (Nat.le_succ n) (by omega) ⟨?_, upd_ne (by omega), upd_ne (by omega), upd_ne (by omega)⟩ ⟨?_, ?_, ?_, ?_⟩ (fun s hs => upd_ne (by omega)) (fun s hs => ?_) q8 ⟨by omega, by omega⟩ hw
        · rw [upd_at, i_add (by omega) (by omega), c3, e1]; omega
        · rw [upd_at, upd_ne (by omega), i_add (by omega) (by omega), c4, e1]; omega
        · rw [upd_ne (by omega), upd_ne (by omega)]
        · rw [upd_ne (by omega), upd_ne (by omega)]
        · rw [upd_ne (by omega), upd_ne (by omega)]
        · by_cases hsn : s = n
          · subst hsn
            show sD C s (upd r33 s p) (upd r34 s v') (upd r35 s (r35 i + 1)) (upd r80 s p) (upd r81 s v') (upd r82 s (r35 i + 1))
            unfold sD
            rw [upd_at, upd_at, upd_at, upd_at, upd_at, upd_at]
            refine ⟨rfl, rfl, rfl, hp.1, hp.2, hv'.1, hv'.2, ?_, ?_⟩
            · rw [i_add (by omega) (by omega), e1]; omega
            · rw [i_add (by omega) (by omega), e1]; omega
          · show sD C s (upd r33 n p) (upd r34 n v') (upd r35 n (r35 i + 1)) (upd r80 n p) (upd r81 n v') (upd r82 n (r35 i + 1))
            unfold sD
            rw [upd_ne hsn, upd_ne hsn, upd_ne hsn, upd_ne hsn, upd_ne hsn, upd_ne hsn]
            exact d6 s (by omega)
  · dsimp only at q2 q6 q7
    subst q6; subst q7
    refine sp2_lp (i_eq.mpr (by dsimp only; rw [q2]; rfl)) (sp2_rp hix (sp2_rp hib (sp2_rp hix (sp2_rp hib (sp2_rp hix (sp2_rp hix (sp2_some ?_)))))))
    dsimp only
    refine ⟨⟨fun k x y z => upd_ne z, fun k x y z u => ?_⟩, Or.inr ⟨(show upd r32 6 1 6 = 1 from upd_at), ?_, ?_, ?_⟩⟩
    · show upd (upd (upd r71 26 xi) 21 1) 25 _ k = r71 k
      rw [upd_ne z, upd_ne x, upd_ne u]
    · dsimp only
      rw [upd_ne (by omega), upd_at]
    · show (upd r32 6 1 2).toInt = 200
      rw [upd_ne (by omega)]; omega
    · dsimp only
      rw [upd_ne (by omega), upd_ne (by omega), upd_ne (by omega)]; omega
theorem s2_lead0 (F : Nat) {r32 r33 r34 r35 r38 r39 r40 r71 r80 r81 r82 r83 r84 r85 : Nat → Int32} {xi p v w : Int32} (h : w = 0 ∨ (¬ r32 6 = 0 ∧ ¬ r71 21 = 0)) :
    fnX4_lead F r32 r33 r34 r35 r38 r39 r40 xi p v w = some (r32, r33, r34, r35, r38, r39, r40) ∧ fnX11_lead F r71 r80 r81 r82 r83 r84 r85 xi p v w = some (r71, r80, r81, r82, r83, r84, r85) := by
  unfold fnX4_lead fnX11_lead
  by_cases hw : w = 0
  · rw [if_pos hw, if_pos hw]
    exact ⟨rfl, rfl⟩
  · rcases h with h | h
    · exact absurd h hw
    · rw [if_neg hw, if_neg hw, if_neg h.1, if_neg h.2]
      exact ⟨rfl, rfl⟩
