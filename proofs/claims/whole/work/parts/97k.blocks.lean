/-! ===== the text: a block opens ===== -/
theorem s8_j23 (F : Nat) {d : Nat} {r2 r3 r15 r16 r17 o : Nat → Int32} {x x2 : Int32} (ho : fnX8_readSign F r2 r3 123 = some o) (hd : (o 10).toInt = (d : Nat)) (hd6 : o 8 = 0 → d < 6) :
    jnX8_openBlock_23 F r3 x x2 r2 r15 r16 r17 = (if o 8 = 0 then some (upd o 10 (o 10 + 1), upd r15 (d + 1) x, upd r16 (d + 1) (-1), upd r17 (d + 1) (vp_nar .boolean x2)) else some (o, r15, r16, r17)) := by
  have e1 : (1 : Int32).toInt = 1 := rfl
  unfold jnX8_openBlock_23
  rw [ho, Option.bind_some]
  by_cases z : o 8 = 0
  · have := hd6 z
    have h1 : (o 10 + 1).toInt = ((d + 1 : Nat) : Int) := by rw [i_add (by omega) (by omega), hd, e1]; omega
    have hib : mj_ib (o 10 + 1) 7 = true := mj_ib_of (by omega) (by omega)
    have hcl : (o 10 + 1).toNatClampNeg = d + 1 := by rw [i_cl, h1]; rfl
    rw [if_pos z, if_pos z, if_pos hib, if_pos hib, if_pos hib, hcl]
  · rw [if_neg z, if_neg z]
def blkR (rw_ : (Nat → Int32) → (Nat → Int32) → (Nat → Int32) → Int32 → Option ((Int32) × (Nat → Int32) × (Nat → Int32))) (F : Nat) (b r74 r77 : Nat → Int32) (x1 : Int32) : Option ((Int32) × (Nat → Int32) × (Nat → Int32)) :=
  (rw_ (upd b 13 (b 13 + 1)) r74 r77 x1).bind (fun o2 => (fnX11_needs F o2.2.1 r77 125).bind (fun o3 => some (o2.1, upd o3 13 (o3 13 - 1), o2.2.2)))
theorem s11_j45 (rw_ : (Nat → Int32) → (Nat → Int32) → (Nat → Int32) → Int32 → Option ((Int32) × (Nat → Int32) × (Nat → Int32))) (F : Nat) {r71 r74 r77 b : Nat → Int32} {x1 : Int32} (hb : fnX11_needs F r71 r77 123 = some b) : jnX11_block_45 rw_ F r77 x1 r71 r74 = blkR rw_ F b r74 r77 x1 := by
  unfold jnX11_block_45 blkR
  rw [hb, Option.bind_some]
theorem tP_10 {M n q : Nat} {r3 r2 r71 a b : Nat → Int32} (h : tP M n r3 r2 r71 q a b) : a 10 = r2 10 ∧ b 13 = r71 13 := by
  obtain ⟨q', _, _, _, h4, h5⟩ := h
  exact ⟨h4 10 (by omega) (by omega) (by omega) (by omega) (by omega) (by omega), h5 13 (by omega) (by omega) (by omega) (by omega)⟩
theorem s2_open (rw_ : (Nat → Int32) → (Nat → Int32) → (Nat → Int32) → Int32 → Option ((Int32) × (Nat → Int32) × (Nat → Int32))) (F : Nat) (hF : 500 ≤ F) {n q d : Nat} {r2 r3 r15 r16 r17 r71 r74 r77 : Nat → Int32} {x x1 x2 : Int32} (ht : tx n r3 r77) (h : tE 401 n r3 r2 r71 q) (hd2 : (r2 10).toInt = (d : Nat)) (hd : (r71 13).toInt = (d : Nat)) (hd6 : d ≤ 6) :
    ∃ o b : Nat → Int32, fnX8_openBlock F r2 r3 r15 r16 r17 x x2 = (if o 8 = 0 then some (upd o 10 (o 10 + 1), upd r15 (d + 1) x, upd r16 (d + 1) (-1), upd r17 (d + 1) (vp_nar .boolean x2)) else some (o, r15, r16, r17)) ∧
      fnX11_block rw_ F r71 r74 r77 x1 = blkR rw_ F b r74 r77 x1 ∧ tP 401 n r3 r2 r71 q o b ∧ (o 8 = 0 → d < 6) := by
  have hn := ht.1
  have e6 : (6 : Int32).toInt = 6 := rfl
  unfold fnX8_openBlock fnX11_block
  rw [s8_isSign F hn h.1 okS_123.1 okS_123.2.1, Option.bind_some]
  by_cases h8 : r2 8 = 0
  · obtain ⟨h14, hh⟩ := tE_0 h h8
    obtain ⟨o, ho, o1, o2, o3, o4⟩ := s11_sign F hF ht hh
    have hE : tE 401 n r3 r2 o.2 q := ⟨h.1, o2, .inl ⟨h8, (o4 14 (by omega)).trans h14, hQr_at o2 o3 h.1.2.2.1 h.1.2.2.2.1, tE_9 h h8⟩⟩
    rw [if_pos h14, ho, Option.bind_some]
    obtain ⟨u, v, hu, hv, hP⟩ := s2_sign F hF (M := 401) (by omega) ht okS_123 hE
    have u10 : (u 10).toInt = (d : Nat) := by rw [(tP_10 hP).1]; exact hd2
    by_cases z : q < n ∧ r3 q = 123
    · have hsg : o.1 = 123 := o1.trans ((sg_eq ht okS_123.2.2).mpr z)
      have z0 := z.1
      have o13 : o.2 13 = r71 13 := o4 13 (by omega)
      rw [if_pos z, if_neg (show ¬ (1 : Int32) = 0 by decide), if_pos hsg, if_neg (show ¬ o.2 10 ≤ o.2 11 from fun y => by have := i_le.mp y; omega)]
      by_cases y : d < 6
      · rw [if_pos (show r2 10 < 6 from i_lt.mpr (by omega)), if_neg (show ¬ o.2 13 = 6 from fun w => by rw [o13] at w; have := i_eq.mp w; omega)]
        exact ⟨u, v, s8_j23 F hu u10 (fun _ => y), s11_j45 rw_ F hv, tP_pre (rk_11 o4) hP, fun _ => y⟩
      · have y6 : d = 6 := by omega
        rw [if_neg (show ¬ r2 10 < 6 from fun w => by have := i_lt.mp w; omega), if_pos (show o.2 13 = 6 from by rw [o13]; exact i_eq.mpr (by omega)), s8_fail0 F h8, Option.bind_some, s11_wrong0 F ((o4 14 (by omega)).trans h14), Option.bind_some]
        have hPf := tP_fail (M := 401) (r71 := r71) (s := o.2) (x := 3) (z := o.2 11) (by omega) h.1 (by decide) o3 o2 ⟨q, o3, by have := h.1.2.2.1; omega⟩ (rk_11 o4)
        have hf10 := (tP_10 hPf).1
        obtain ⟨q2, hE2, p1, p2, p3, p4⟩ := hPf
        obtain ⟨u', v', hu', hv', hP'⟩ := s2_sign F hF (M := 401) (by omega) ht okS_123 hE2
        have u10' : (u' 10).toInt = (d : Nat) := by rw [(tP_10 hP').1, hf10]; exact hd2
        have hno : ¬ u' 8 = 0 := by
          obtain ⟨q3, _, _, k2, _⟩ := hP'
          intro w
          have := (k2 w).1
          rw [upd_ne (by omega), upd_at] at this
          exact absurd this (by decide)
        exact ⟨u', v', s8_j23 F hu' u10' (fun w => absurd w hno), s11_j45 rw_ F hv', tP_c p1 p2 p3 p4 hP', fun w => absurd w hno⟩
    · have hsg : ¬ o.1 = 123 := fun y => z ((sg_eq ht okS_123.2.2).mp (o1.symm.trans y))
      rw [if_neg z, if_pos rfl, if_neg hsg]
      have hno : ¬ u 8 = 0 := by
        unfold fnX8_readSign at hu
        rw [s8_isSign F hn h.1 okS_123.1 okS_123.2.1, Option.bind_some, if_neg z, if_pos rfl, s8_fail0 F h8, Option.bind_some] at hu
        rw [← Option.some.inj hu, upd_ne (by omega), upd_at]
        decide
      exact ⟨u, v, s8_j23 F hu u10 (fun w => absurd w hno), s11_j45 rw_ F hv, tP_pre (rk_11 o4) hP, fun w => absurd w hno⟩
  · obtain ⟨h1, h14⟩ := tE_1 h h8
    rw [if_neg h14, s8_failF F h8, Option.bind_some, ite_self, ite_self]
    obtain ⟨u, v, hu, hv, hP⟩ := s2_sign F hF (M := 401) (by omega) ht okS_123 h
    have u10 : (u 10).toInt = (d : Nat) := by rw [(tP_10 hP).1]; exact hd2
    have hno : ¬ u 8 = 0 := by
      obtain ⟨q3, _, _, k2, _⟩ := hP
      exact fun w => h8 (k2 w).1
    exact ⟨u, v, s8_j23 F hu u10 (fun w => absurd w hno), s11_j45 rw_ F hv, hP, fun w => absurd w hno⟩
