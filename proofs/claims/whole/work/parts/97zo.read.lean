/-! ===== the text: read against row ===== -/
def cM15 (a2 a4 a5 a6 a7 a8 a9 a10 a11 a12 a13 a14 a15 a16 a17 : Nat → Int32) (j : Nat) : Nat → Int32 :=
  if j = 2 then a2 else if j = 4 then a4 else if j = 5 then a5 else if j = 6 then a6 else if j = 7 then a7 else if j = 8 then a8 else if j = 9 then a9 else if j = 10 then a10 else if j = 11 then a11 else if j = 12 then a12 else if j = 13 then a13 else if j = 14 then a14 else if j = 15 then a15 else if j = 16 then a16 else a17
def rdI (r2 : Nat → Int32) (x1 : Int32) : Nat → Int32 := (upd (upd (upd (upd (upd (upd r2 3 (if (r2 0) < x1 then (r2 0) else x1)) 0 (0 : Int32)) 6 (0 : Int32)) 8 (0 : Int32)) 9 (-1 : Int32)) 10 (0 : Int32))
abbrev T16 := Int32 × T15
/-- what read gives -/
def rdO (c : Nat → Nat → Int32) (a11 a12 a14 : Nat → Int32) : T16 := (c 2 8, c 2, c 4, c 5, c 6, c 7, c 8, c 9, c 10, a11, a12, c 13, a14, c 15, c 16, c 17)
theorem e_read (F : Nat) {r2 r3 r4 r5 r6 r7 r8 r9 r10 r11 r12 r13 r14 r15 r16 r17 a2 : Nat → Int32} {x1 : Int32} {c : Nat → Nat → Int32} (ha : fnX8_goOn F (rdI r2 x1) r3 = some a2)
    (hl : mj_it (bodyC F r3) F (tup 0 (cM15 a2 (upd r4 0 0) r5 r6 r7 r8 r9 r10 r11 r12 r13 r14 (upd r15 0 (-1)) (upd r16 0 (-1)) r17)) = some (tup5 c)) :
    fnX8_read F r2 r3 r4 r5 r6 r7 r8 r9 r10 r11 r12 r13 r14 r15 r16 r17 x1 = (if c 2 8 = 0 then (fnX7_link_4 F (c 4) (c 5) (c 11) (c 12) (c 13) (c 14)).bind (fun o17 => some (rdO c o17.1 o17.2.1 o17.2.2)) else some (rdO c (c 11) (c 12) (c 14))) := by
  have z0 : (0 : Int32).toNatClampNeg = 0 := rfl
  have hib : mj_ib (0 : Int32) 7 = true := by decide
  unfold fnX8_read
  rw [if_pos hib, if_pos hib, show fnX7_clear_4 F r4 = some (upd r4 0 0) from rfl, Option.bind_some]
  rw [show fnX8_goOn F (upd (upd (upd (upd (upd (upd r2 3 (if (r2 0) < x1 then (r2 0) else x1)) 0 (0 : Int32)) 6 (0 : Int32)) 8 (0 : Int32)) 9 (-1 : Int32)) 10 (0 : Int32)) r3 = some a2 from ha, Option.bind_some, z0]
  show (mj_it (bodyC F r3) F (tup 0 (cM15 a2 (upd r4 0 0) r5 r6 r7 r8 r9 r10 r11 r12 r13 r14 (upd r15 0 (-1)) (upd r16 0 (-1)) r17))).bind _ = _
  rw [hl, Option.bind_some]
  rfl
theorem rd_loop {F : Nat} (hF : 500 ≤ F) {r3 : Nat → Int32} {x' : Int32} {c c' : Nat → Nat → Int32} (h : ps_ F r3 0 c x' c') (he : bodyC F r3 (tup x' c') = some (.inr (tup5 c'))) : mj_it (bodyC F r3) F (tup 0 c) = some (tup5 c') := by
  obtain ⟨m, h1, h2, h3⟩ := h
  have e0 : (0 : Int32).toInt = 0 := rfl
  obtain ⟨M, hM⟩ : ∃ M, F = (M + 1) + m := ⟨F - m - 1, by omega⟩
  have := h1 (M + 1)
  rw [← hM] at this
  rw [this]
  exact itC_e he M
/-- behind the reference's row -/
def txT (F : Nat) (r76 r72 r73 r75 r77 : Nat → Int32) (o14 : Int32 × (Nat → Int32) × (Nat → Int32)) : Option ((Int32) × (Nat → Int32) × (Nat → Int32) × (Nat → Int32) × (Nat → Int32) × (Nat → Int32) × (Nat → Int32)) :=
  (if (o14.2.1 14) = 0 then (fnX11_sign F o14.2.1 r77).bind (fun o16 => (if o16.1 = 0 then (if (o16.2 10) ≤ (o16.2 11) then jnX11_text_123 F r76 o16.2 r72 r73 o14.2.2 r75 r77 else jnX11_text_114 F r76 o16.2 r72 r73 o14.2.2 r75 r77) else jnX11_text_114 F r76 o16.2 r72 r73 o14.2.2 r75 r77)) else jnX11_text_123 F r76 o14.2.1 r72 r73 o14.2.2 r75 r77)
theorem j123_good (F : Nat) {r76 s r72 r73 r74 r75 r77 : Nat → Int32} (h : s 14 = 0) : jnX11_text_123 F r76 s r72 r73 r74 r75 r77 = (fnX11_stands F (upd s 16 (-1)) r73 r74 r75).bind (fun o6 => some ((o6.1 4), o6.1, r72, o6.2.1, r74, o6.2.2, r77)) := by
  have h0 : s 14 ≤ 0 := by rw [h]; decide
  unfold jnX11_text_123
  rw [if_pos h0, if_pos h0]
theorem j123_bad (F : Nat) {r76 s r72 r73 r74 r75 r77 : Nat → Int32} (h : 1 ≤ (s 14).toInt) : jnX11_text_123 F r76 s r72 r73 r74 r75 r77 = some (s 14 - 10, upd s 16 (s 15), r72, r73, r74, r75, r77) := by
  unfold jnX11_text_123
  rw [if_neg (i_nle h), if_neg (i_nle h)]
/-- what the two hold behind a text: A of the class, D of the reference -/
def tQ (r71 r72 r73 r75 r77 : Nat → Int32) (A : T16) (D : (Int32) × (Nat → Int32) × (Nat → Int32) × (Nat → Int32) × (Nat → Int32) × (Nat → Int32) × (Nat → Int32)) : Prop :=
  A.2.1 0 = 0 ∧ D.2.2.1 = r72 ∧ D.2.2.2.2.2.2 = r77 ∧ D.2.1 16 = A.2.1 9 ∧
  ((A.1 = 0 ∧ D.1 = A.2.2.1 0 ∧ D.2.1 4 = A.2.2.1 0 ∧ D.2.1 17 = 0 ∧ D.2.1 20 = 0 ∧ D.2.1 22 = 0 ∧ (∀ k, k ≠ 4 → k ≠ 5 → k ≠ 11 → k ≠ 12 → k ≠ 13 → k ≠ 14 → k ≠ 15 → k ≠ 16 → k ≠ 17 → k ≠ 20 → k ≠ 22 → D.2.1 k = r71 k) ∧
     pK A.2.2.1 A.2.2.2.1 A.2.2.2.2.1 A.2.2.2.2.2.1 A.2.2.2.2.2.2.1 A.2.2.2.2.2.2.2.1 A.2.2.2.2.2.2.2.2.1 A.2.2.2.2.2.2.2.2.2.1 A.2.2.2.2.2.2.2.2.2.2.1 D.2.2.2.1 ∧ (∀ v, v < 6 → D.2.2.2.2.2.1 v = 0)) ∨
   (¬ A.1 = 0 ∧ D.1 = A.1 - 10 ∧ D.2.2.2.1 = r73 ∧ D.2.2.2.2.2.1 = r75 ∧ ∀ k, k ≠ 5 → k ≠ 11 → k ≠ 12 → k ≠ 13 → k ≠ 14 → k ≠ 15 → k ≠ 16 → D.2.1 k = r71 k))
theorem s2_read (F : Nat) (hF : 500 ≤ F) {n N : Nat} {r2 r3 r4 r5 r6 r7 r8 r9 r10 r11 r12 r13 r14 r15 r16 r17 r71 r72 r73 r74 r75 r76 r77 : Nat → Int32} {x1 : Int32} (ht : tx n r3 r77) (hx : x1.toInt = (n : Nat)) (hN : (r2 0).toInt = (N : Nat)) (hnN : n ≤ N)
    (h10 : (r71 10).toInt = (n : Nat)) (h11 : r71 11 = 0) (h13 : r71 13 = 0) (h5 : r71 5 = 0) (h14 : r71 14 = 0) :
    sp2 (fnX8_read F r2 r3 r4 r5 r6 r7 r8 r9 r10 r11 r12 r13 r14 r15 r16 r17 x1) ((fnX11_rowR F 9 r71 r74 r77 (-3)).bind (fun o14 => txT F r76 r72 r73 r75 r77 o14)) (tQ r71 r72 r73 r75 r77) := by
  have e0 : (0 : Int32).toInt = 0 := rfl
  have hn := ht.1
  have i3 : (rdI r2 x1 3).toInt = (n : Nat) := by
    unfold rdI
    rw [upd_ne (by omega), upd_ne (by omega), upd_ne (by omega), upd_ne (by omega), upd_ne (by omega), upd_at, if_neg (fun z => by have := i_lt.mp z; omega)]
    exact hx
  have i8 : rdI r2 x1 8 = 0 := by
    unfold rdI
    rw [upd_ne (by omega), upd_ne (by omega), upd_at]
  have i9 : rdI r2 x1 9 = -1 := by
    unfold rdI
    rw [upd_ne (by omega), upd_at]
  have i6 : rdI r2 x1 6 = 0 := by
    unfold rdI
    rw [upd_ne (by omega), upd_ne (by omega), upd_ne (by omega), upd_at]
  have i0 : rdI r2 x1 0 = 0 := by
    unfold rdI
    rw [upd_ne (by omega), upd_ne (by omega), upd_ne (by omega), upd_ne (by omega), upd_at]
  have i10 : rdI r2 x1 10 = 0 := by
    unfold rdI
    rw [upd_at]
  obtain ⟨a2, ha, q, b1, b2, b3, b4, b5⟩ := s8_goOn F hF (p := 0) hn i8 i3 (by rw [i6]; rfl) (by omega)
  have a0 : a2 0 = 0 := (b4 0 (by omega) (by omega) (by omega) (by omega) (by omega) (by omega)).trans i0
  have a10 : a2 10 = 0 := (b4 10 (by omega) (by omega) (by omega) (by omega) (by omega) (by omega)).trans i10
  have hE : tE 401 n r3 a2 r71 q := ⟨b2, h10, .inl ⟨b3, h14, ⟨h10, 0, by rw [h11]; rfl, b1⟩, b5.trans i9⟩⟩
  generalize hc0 : cM15 a2 (upd r4 0 0) r5 r6 r7 r8 r9 r10 r11 r12 r13 r14 (upd r15 0 (-1)) (upd r16 0 (-1)) r17 = c0
  have c2 : c0 2 = a2 := by rw [← hc0]; rfl
  have c4 : c0 4 0 = 0 := by rw [← hc0]; show upd r4 0 0 0 = 0; exact upd_at
  have c15 : c0 15 0 = -1 := by rw [← hc0]; show upd r15 0 (-1) 0 = -1; exact upd_at
  have c16 : c0 16 0 = -1 := by rw [← hc0]; show upd r16 0 (-1) 0 = -1; exact upd_at
  have hJ : aJ n r3 0 c0 r71 r74 q 0 0 := ⟨by rw [c2]; exact hE, by rw [c2]; exact b3, by rw [c2, a10]; rfl, by rw [h13]; rfl, by omega, by rw [c4]; rfl, by rw [h5]; rfl, by omega, by rw [e0]; omega, by rw [e0]; omega, stk_0 c15 c16, lk_0 _ _ _, cnt_0 _ _, own_0 _ _ _, ur_0 _ _ _⟩
  have hcd : cd_ 0 (-1) c0 := ⟨⟨fun _ => c16, fun _ => rfl⟩, .inl rfl, fun z => absurd z (by omega)⟩
  obtain ⟨x', c', o, ho, hps, h20, h6, hcase⟩ := rows_ F hF ht 9 0 (by omega) (by omega) q 0 0 c0 r71 r74 (-3) hJ hcd
  have h20 : c' 2 0 = 0 := by rw [h20, c2]; exact a0
  rw [ho, Option.bind_some]
  have hread : ∀ {x' : Int32} {c' : Nat → Nat → Int32}, ps_ F r3 0 c0 x' c' → bodyC F r3 (tup x' c') = some (.inr (tup5 c')) → fnX8_read F r2 r3 r4 r5 r6 r7 r8 r9 r10 r11 r12 r13 r14 r15 r16 r17 x1 = (if c' 2 8 = 0 then (fnX7_link_4 F (c' 4) (c' 5) (c' 11) (c' 12) (c' 13) (c' 14)).bind (fun o17 => some (rdO c' o17.1 o17.2.1 o17.2.2)) else some (rdO c' (c' 11) (c' 12) (c' 14))) := fun {x' c'} h1 h2 => e_read F ha (by rw [hc0]; exact rd_loop hF h1 h2)
  rcases hcase with ⟨q', K', r', x2, a1, a2', a3, a4, a5, a6, a7, a8⟩ | ⟨hf, hk⟩
  · have a3' := a3
    obtain ⟨hE', h8, hd, hd2, hd6, hK, hK2, hK3, hx0, hxq, hs, hL, hc, how⟩ := a3'
    have hq' := hE'.1.2.2.1
    obtain ⟨o14, hh⟩ := tE_0 hE' h8
    obtain ⟨o16, ho16, s1, s2, s3, s4⟩ := s11_sign F hF ht hh
    unfold txT
    rw [if_pos o14, ho16, Option.bind_some]
    by_cases hq : q' < n
    · have hkd : fnX8_kindHere F (c' 2) r3 = some (-1) := by
        obtain ⟨r, hr, h1⟩ := s8_kind F hF ht.1 hE'.1
        rcases h1 with ⟨_, w⟩ | ⟨i, w, _⟩
        · rw [hr, w]
        · exact absurd a4 (kR_n w)
      have hst := e_none F (c := c') hkd (s8_fail0 F h8)
      have h23 := hE'.1.1
      have hb : bodyC F r3 (tup x' c') = some (.inl (tup (x' + 1) (pt2 c' (upd (upd (c' 2) 8 1) 9 (c' 2 5))))) := by
        refine b_stm F (fun y => ?_) h8 (.inr (fun y => ?_)) (.inl (i_le.mpr (show (c' 2 10).toInt ≤ 0 by omega))) hst
        · have := i_lt.mp y
          omega
        · have := (tk_4 hE'.1).mp y
          omega
      have u8 : pt2 c' (upd (upd (c' 2) 8 1) 9 (c' 2 5)) 2 8 = 1 := by
        show upd (upd (c' 2) 8 1) 9 (c' 2 5) 8 = 1
        rw [upd_ne (by omega), upd_at]
      have u9 : pt2 c' (upd (upd (c' 2) 8 1) 9 (c' 2 5)) 2 9 = c' 2 5 := by
        show upd (upd (c' 2) 8 1) 9 (c' 2 5) 9 = c' 2 5
        rw [upd_at]
      have u0 : pt2 c' (upd (upd (c' 2) 8 1) 9 (c' 2 5)) 2 0 = 0 := by
        show upd (upd (c' 2) 8 1) 9 (c' 2 5) 0 = 0
        rw [upd_ne (by omega), upd_ne (by omega)]
        exact h20
      rw [hread (ps_tr hps (ps_1 hb hx0 (by omega))) (b_end F (.inl (by rw [u8]; decide))), if_neg (by rw [u8]; decide)]
      have e5 : o16.2 11 = c' 2 5 := i_eq.mpr (by rw [s3]; exact hE'.1.2.1.symm)
      have s14 : o16.2 14 = 0 := (s4 14 (by omega)).trans o14
      have j114 : jnX11_text_114 F r76 o16.2 r72 r73 o.2.2 r75 r77 = some (1 - 10, upd (upd (upd o16.2 14 1) 15 (o16.2 11)) 16 (o16.2 11), r72, r73, o.2.2, r75, r77) := by
        unfold jnX11_text_114
        have g14 : upd (upd o16.2 14 1) 15 (o16.2 11) 14 = 1 := by rw [upd_ne (by omega), upd_at]
        have g15 : upd (upd o16.2 14 1) 15 (o16.2 11) 15 = o16.2 11 := upd_at
        rw [s11_wrong0 F s14, Option.bind_some, j123_bad F (by rw [g14]; decide), g14, g15]
      have hD : sp2 (some (rdO (pt2 c' (upd (upd (c' 2) 8 1) 9 (c' 2 5))) (pt2 c' (upd (upd (c' 2) 8 1) 9 (c' 2 5)) 11) (pt2 c' (upd (upd (c' 2) 8 1) 9 (c' 2 5)) 12) (pt2 c' (upd (upd (c' 2) 8 1) 9 (c' 2 5)) 14))) (jnX11_text_114 F r76 o16.2 r72 r73 o.2.2 r75 r77) (tQ r71 r72 r73 r75 r77) := by
        rw [j114]
        refine sp2_some ⟨u0, rfl, rfl, ?_, .inr ⟨?_, ?_, rfl, rfl, fun k k1 k2 k3 k4 k5 k6 k7 => ?_⟩⟩
        · show upd (upd (upd o16.2 14 1) 15 (o16.2 11)) 16 (o16.2 11) 16 = _
          rw [upd_at, e5]
          exact u9.symm
        · show ¬ pt2 c' (upd (upd (c' 2) 8 1) 9 (c' 2 5)) 2 8 = 0
          rw [u8]
          decide
        · show (1 : Int32) - 10 = pt2 c' (upd (upd (c' 2) 8 1) 9 (c' 2 5)) 2 8 - 10
          rw [u8]
        · show upd (upd (upd o16.2 14 1) 15 (o16.2 11)) 16 (o16.2 11) k = _
          rw [upd_ne k7, upd_ne k6, upd_ne k5, s4 k k2]
          exact h6 k k1 k2 k3 k4 k5 k6
      by_cases z : o16.1 = 0
      · rw [if_pos z, if_neg (fun y => by have := i_le.mp y; omega)]
        exact hD
      · rw [if_neg z]
        exact hD
    · have eq : q' = n := by omega
      have hend : bodyC F r3 (tup x' c') = some (.inr (tup5 c')) := b_end F (.inr ⟨fun y => by have : 0 < (c' 2 10).toInt := i_lt.mp y; omega, (tk_4 hE'.1).mpr eq⟩)
      rw [hread hps hend, if_pos h8]
      have sg0 : o16.1 = 0 := by
        rw [s1]
        unfold sg
        rw [if_neg (by omega)]
      have s14 : o16.2 14 = 0 := (s4 14 (by omega)).trans o14
      rw [if_pos sg0, if_pos (i_le.mpr (by omega)), j123_good F s14]
      obtain ⟨o17, h17, l1, l2⟩ := s7_link F hF hK hK3 hs.2.2.2
      rw [h17, Option.bind_some]
      have hK5 : (upd o16.2 16 (-1) 5).toInt = (K' : Nat) := by rw [upd_ne (by omega), s4 5 (by omega)]; exact hK2
      obtain ⟨o6, h6', d1, d2, d3⟩ := s11_stands F hF (r73 := r73) (r74 := o.2.2) (r75 := r75) hK5 hK3
      rw [h6', Option.bind_some]
      rw [a8] at d2
      have hpk := fin_pK a3 hK5 l1 l2 d2
      have f5 : upd o16.2 16 (-1) 5 = c' 4 0 := i_eq.mpr (by rw [hK5, hK])
      have g4 : o6.1 4 = c' 4 0 := by
        rw [d1, upd_ne (by omega), upd_ne (by omega), upd_ne (by omega), upd_at]
        exact f5
      refine sp2_some ⟨h20, rfl, rfl, ?_, .inl ⟨h8, g4, g4, ?_, ?_, ?_, fun k k1 k2 k3 k4 k5 k6 k7 k8 k9 k10 k11 => ?_, hpk, d3⟩⟩
      · show o6.1 16 = c' 2 9
        rw [d1, upd_ne (by omega), upd_ne (by omega), upd_ne (by omega), upd_ne (by omega), upd_at]
        exact (tE_9 hE' h8).symm
      · show o6.1 17 = 0
        rw [d1, upd_ne (by omega), upd_ne (by omega), upd_at]
      · show o6.1 20 = 0
        rw [d1, upd_ne (by omega), upd_at]
      · show o6.1 22 = 0
        rw [d1, upd_at]
      · show o6.1 k = r71 k
        rw [d1, upd_ne k11, upd_ne k10, upd_ne k9, upd_ne k1, upd_ne k8, s4 k k3]
        exact h6 k k2 k3 k4 k5 k6 k7
  · have hend : bodyC F r3 (tup x' c') = some (.inr (tup5 c')) := b_end F (.inl (i_n0 hf.1))
    have h14' : 1 ≤ (o.2.1 14).toInt := by rw [hf.2.2.1]; exact hf.1
    rw [hread hps hend, if_neg (i_n0 hf.1)]
    unfold txT
    rw [if_neg (i_n0 h14'), j123_bad F h14']
    refine sp2_some ⟨h20, rfl, rfl, ?_, .inr ⟨i_n0 hf.1, ?_, rfl, rfl, fun k k1 k2 k3 k4 k5 k6 k7 => ?_⟩⟩
    · show upd o.2.1 16 (o.2.1 15) 16 = c' 2 9
      rw [upd_at]
      exact hf.2.2.2
    · show o.2.1 14 - 10 = c' 2 8 - 10
      rw [hf.2.2.1]
    · show upd o.2.1 16 (o.2.1 15) k = r71 k
      rw [upd_ne k7]
      exact h6 k k1 k2 k3 k4 k5 k6
