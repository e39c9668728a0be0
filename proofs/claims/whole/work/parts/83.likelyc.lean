/-! ===== the likeliest run: the class finds it ===== -/
theorem wS_one {na : Nat → Nat} {tg : Nat → Nat → Nat} {sh : Nat → Nat → Int} {en dw : Nat → Bool} {st : Nat → Option Nat} {l s f f' : Nat} {w w' : Int} (h : wS na tg sh en dw st l s w f) (h' : wS na tg sh en dw st l s w' f') : w = w' ∧ (0 < w → f = f') := by
  obtain ⟨a1, a2, a3, a4⟩ := h
  obtain ⟨b1, b2, b3, b4⟩ := h'
  have e : w = w' := by
    rcases Int.lt_trichotomy w w' with z | z | z
    · obtain ⟨c1, c2, c3⟩ := b4 (by omega)
      have := a3 f' c1
      omega
    · exact z
    · obtain ⟨c1, c2, c3⟩ := a4 (by omega)
      have := b3 f c1
      omega
  refine ⟨e, fun hw => ?_⟩
  obtain ⟨c1, c2, c3⟩ := a4 hw
  obtain ⟨d1, d2, d3⟩ := b4 (by omega)
  rcases Nat.lt_trichotomy f f' with z | z | z
  · have := d3 f z; omega
  · exact z
  · have := c3 f' z; omega
theorem vl_pos {na : Nat → Nat} {tg : Nat → Nat → Nat} {sh : Nat → Nat → Int} {en dw : Nat → Bool} {st : Nat → Option Nat} {s k d : Nat} (h : 0 < vl na tg sh en dw st s k d) : ∃ u, st (tg s k) = some u := by
  cases hq : st (tg s k) with
  | none =>
    unfold vl at h
    rw [hq] at h
    have : sh s k * op (mm na tg sh en dw st d) none = 0 := Int.mul_zero _
    omega
  | some u => exact ⟨u, rfl⟩
theorem mu_dec2 {a b : Int32} {l : Nat} (ha : a.toInt = ((l + 1 : Nat) : Int) - 1) (hb : b.toInt = ((l + 1 : Nat) : Int)) : a.toInt.toNat < b.toInt.toNat := by
  rw [ha, hb]
  omega
theorem s5_choose (F : Nat) (hF : 3000 ≤ F) {n : Nat} {fr na : Nat → Nat} {tg : Nat → Nat → Nat} {sh : Nat → Nat → Int} {r18 r19 r32 r33 r37 r38 r39 r67 r69 : Nat → Int32} {q68 : Nat → Int64} (h : lG n fr na tg sh r18 r19 r32 r33 r37 r38 r39) (h67 : ∀ i, i < n → oR (sf na tg (en_ r33 (r32 7)) (dwB r18 r19 r33) 201 i) (r67 i)) (hT : ∀ l', l' ≤ 10 → ∀ s, s < n → wR na tg sh (en_ r33 (r32 7)) (dwB r18 r19 r33) l' s r69 q68) {x3 x4 x5 : Int32} {s l d : Nat} (hs : s < n) (hl : l ≤ 9) (hx3 : x3.toInt = (s : Nat)) (hx5 : x5.toInt = ((200 * (l + 1) + s : Nat) : Int)) (he : ¬ en_ r33 (r32 7) s = true) (hd : dwB r18 r19 r33 s = true) (hf : (r69 (200 * (l + 1) + s)).toInt = ((d + 1 : Nat) : Int)) (hw : 0 < (q68 (200 * (l + 1) + s)).toInt) (hS : wS na tg sh (en_ r33 (r32 7)) (dwB r18 r19 r33) (sf na tg (en_ r33 (r32 7)) (dwB r18 r19 r33) 201) (l + 1) s (q68 (200 * (l + 1) + s)).toInt (d + 1)) {x60 : Int32} (hx60 : x60.toInt = -1) :
    sp (mj_it (mj_u2 (fun z0 z1 => bdX5_trace_45 F r37 r38 r39 r67 r69 q68 x3 x4 x5 z0 z1)) F (x60, r37 s)) (fun e => ∃ a, isPk na tg sh (en_ r33 (r32 7)) (dwB r18 r19 r33) (sf na tg (en_ r33 (r32 7)) (dwB r18 r19 r33) 201) s d a ∧ e.toInt = ((fr s + a : Nat) : Int)) := by
  have hshB := lG_shB h
  have hst : ∀ s x, s < n → sf na tg (en_ r33 (r32 7)) (dwB r18 r19 r33) 201 s = some x → x < n := fun s x hs => sf_lt (fun s hs hna => (hshB s hs 0 hna).2.2) 201 s x hs
  obtain ⟨h1, h2, h3, h4, h5, h6, h7, h8⟩ := h
  have e1 : (1 : Int32).toInt = 1 := rfl
  obtain ⟨a1, a2, a3, a4⟩ := h6 s hs
  have y1 : (x3 + 1).toInt = ((s + 1 : Nat) : Int) := by rw [i_add (by omega) (by omega), hx3, e1]; omega
  have cy1 : (x3 + 1).toNatClampNeg = s + 1 := by rw [i_cl, y1]; rfl
  have c5 : x5.toNatClampNeg = 200 * (l + 1) + s := by rw [i_cl, hx5]; rfl
  have ib5 : mj_ib x5 2200 = true := mj_ib_of (by omega) (by omega)
  have p9 := pow60_10 l (by omega)
  have p10 := pow60_10 (l + 1) (by omega)
  have hmp : 0 < mm na tg sh (en_ r33 (r32 7)) (dwB r18 r19 r33) (sf na tg (en_ r33 (r32 7)) (dwB r18 r19 r33) 201) (d + 1) s := by
    have w1 := (hS.2.2.2 hw).2.1
    have w2 := (mm_b (en := en_ r33 (r32 7)) (dw := dwB r18 r19 r33) hshB hst (d + 1) s hs).1
    rcases Int.lt_or_le 0 (mm na tg sh (en_ r33 (r32 7)) (dwB r18 r19 r33) (sf na tg (en_ r33 (r32 7)) (dwB r18 r19 r33) 201) (d + 1) s) with z | z
    · exact z
    · have z2 : mm na tg sh (en_ r33 (r32 7)) (dwB r18 r19 r33) (sf na tg (en_ r33 (r32 7)) (dwB r18 r19 r33) 201) (d + 1) s = 0 := by omega
      rw [z2, Int.zero_mul] at w1
      omega
  have hex := isPk_ex (na := na) (tg := tg) (sh := sh) (st := sf na tg (en_ r33 (r32 7)) (dwB r18 r19 r33) 201) he hd hmp
  refine sp_cnt (fun s : Int32 × Int32 => s.2) (fr s + na s) (by omega) (fun j t => ∃ k, j = fr s + k ∧ ((t.1.toInt = -1 ∧ ∀ j, j < k → ¬ vl na tg sh (en_ r33 (r32 7)) (dwB r18 r19 r33) (sf na tg (en_ r33 (r32 7)) (dwB r18 r19 r33) 201) s j d = mm na tg sh (en_ r33 (r32 7)) (dwB r18 r19 r33) (sf na tg (en_ r33 (r32 7)) (dwB r18 r19 r33) 201) (d + 1) s) ∨ ∃ a, isPk na tg sh (en_ r33 (r32 7)) (dwB r18 r19 r33) (sf na tg (en_ r33 (r32 7)) (dwB r18 r19 r33) 201) s d a ∧ t.1.toInt = ((fr s + a : Nat) : Int))) ?_ F (fr s) _ (by omega) a1 ⟨0, rfl, Or.inl ⟨hx60, fun j hj => absurd hj (Nat.not_lt_zero j)⟩⟩ (by omega)
  clear hx60
  rintro j ⟨x6, z⟩ hj hz hcz hz1 ⟨k, rfl, hJ⟩
  refine sp_u2 ?_
  dsimp only at hz hcz hz1 hJ
  unfold bdX5_trace_45
  refine sp_pos (mj_ib_of (by omega) (by omega)) ?_
  rw [cy1]
  refine sp_ite (fun hy => sp_some ?_) (fun hy => ?_)
  · have := i_le.mp hy
    have : k = na s := by omega
    rcases hJ with ⟨-, j2⟩ | hJ
    · obtain ⟨a, p1, p2, -⟩ := hex
      exact absurd p2 (j2 a (by omega))
    · exact hJ
  · have hy2 : ¬ (r37 (s + 1)).toInt ≤ z.toInt := fun w => hy (i_le.mpr w)
    have hkn : k < na s := by omega
    have hk1 : fr s + k < fr s + na s := by omega
    rcases hJ with ⟨j1, j2⟩ | ⟨a, p1, p2⟩
    · refine sp_pos (i_eq.mpr j1) ?_
      obtain ⟨t1, t2⟩ := a4 k hkn
      obtain ⟨s1, s2⟩ := h7 s hs k hkn
      have hib : mj_ib z 2000 = true := mj_ib_of (by omega) (by omega)
      have ct : (r38 (fr s + k)).toNatClampNeg = tg s k := by rw [i_cl, t1]; rfl
      refine sp_pos hib ?_
      rw [hcz]
      refine sp_pos (mj_ib_of (by omega) (by omega)) ?_
      rw [ct, c5]
      have hot := h67 (tg s k) t2
      have noo : ¬ vl na tg sh (en_ r33 (r32 7)) (dwB r18 r19 r33) (sf na tg (en_ r33 (r32 7)) (dwB r18 r19 r33) 201) s k d = mm na tg sh (en_ r33 (r32 7)) (dwB r18 r19 r33) (sf na tg (en_ r33 (r32 7)) (dwB r18 r19 r33) 201) (d + 1) s → ∀ j, j < k + 1 → ¬ vl na tg sh (en_ r33 (r32 7)) (dwB r18 r19 r33) (sf na tg (en_ r33 (r32 7)) (dwB r18 r19 r33) 201) s j d = mm na tg sh (en_ r33 (r32 7)) (dwB r18 r19 r33) (sf na tg (en_ r33 (r32 7)) (dwB r18 r19 r33) 201) (d + 1) s := by
        intro hno j hj
        by_cases e : j = k
        · rw [e]; exact hno
        · exact j2 j (by omega)
      cases hq : sf na tg (en_ r33 (r32 7)) (dwB r18 r19 r33) 201 (tg s k) with
      | none =>
        rw [hq] at hot
        refine sp_pos (i_eq.mpr hot) (sp_some ⟨hk1, rfl, k + 1, rfl, Or.inl ⟨j1, noo (fun w => ?_)⟩⟩)
        obtain ⟨u, hu⟩ := vl_pos (by rw [w]; exact hmp)
        rw [hq] at hu
        cases hu
      | some u =>
        rw [hq] at hot
        have hot' : (r67 (tg s k)).toInt = (u : Nat) := hot
        have hun := hst _ _ t2 hq
        obtain ⟨f', g1, g2⟩ := hT l (by omega) u hun (sf_is 201 _ _ hq)
        have hul : u < 200 := by omega
        have hi2 : s < 200 := by omega
        have harc := wS_arc he hd hkn hw hS hq s2 g2
        have hneg : ¬ r67 (tg s k) = -1 := fun w => by
          have w1 : (r67 (tg s k)).toInt = -1 := by rw [w]; rfl
          clear w
          omega
        refine sp_neg hneg (sp_pos hib ?_)
        clear hneg
        obtain ⟨cb, ibb⟩ := ixB hx5 hx3 hot' hl hi2 hul
        refine sp_pos ibb (sp_pos ib5 ?_)
        rw [cb]
        clear cb
        have hw0 := g2.1
        have hw1 := g2.2.1
        have hm0 : 0 ≤ sh s k * (q68 (200 * l + u)).toInt := Int.mul_nonneg (by omega) hw0
        have hm1 : sh s k * (q68 (200 * l + u)).toInt ≤ 604661760000000000 := by
          have b1 : sh s k * (q68 (200 * l + u)).toInt ≤ 60 * (q68 (200 * l + u)).toInt := Int.mul_le_mul_of_nonneg_right s2.2 hw0
          have b2 : (60 : Int) ^ (l + 1) = 60 ^ l * 60 := Int.pow_succ _ _
          omega
        have hmul := l_sh s1 (b := q68 (200 * l + u)) rfl s2 ⟨hw0, by omega⟩ ⟨hm0, hm1⟩
        generalize (r39 (fr s + k)).toInt64 * q68 (200 * l + u) = pr_ at hmul ⊢
        refine sp_ite (fun q1 => sp_pos ibb (sp_pos ib5 ?_)) (fun q1 => sp_some ⟨hk1, rfl, k + 1, rfl, Or.inl ⟨j1, noo (fun w => ?_)⟩⟩)
        · have q1' := l_eq.mp q1
          rw [hmul] at q1'
          have hw' : 0 < (q68 (200 * l + u)).toInt := by
            rcases Int.lt_or_le 0 (q68 (200 * l + u)).toInt with w | w
            · exact w
            · have w2 : (q68 (200 * l + u)).toInt = 0 := by omega
              rw [w2, Int.mul_zero] at q1'
              omega
          have hf' := (g2.2.2.2 hw').1
          have hnx : (r69 (200 * l + u) + 1).toInt = ((f' + 1 : Nat) : Int) := by rw [i_add (by omega) (by omega), g1, e1]; omega
          refine sp_ite (fun q2 => sp_some ⟨hk1, rfl, k + 1, rfl, Or.inr ⟨k, ⟨hkn, harc.mp ⟨q1', ?_⟩, j2⟩, hz⟩⟩) (fun q2 => sp_some ⟨hk1, rfl, k + 1, rfl, Or.inl ⟨j1, noo (fun w => ?_)⟩⟩)
          · have q2' := i_eq.mp q2
            rw [hnx, hf] at q2'
            omega
          · have w2 := (harc.mpr w).2
            exact q2 (i_eq.mpr (by rw [hnx, hf]; omega))
        · have w2 := (harc.mpr w).1
          exact q1 (l_eq.mpr (by rw [hmul]; exact w2))
    · refine sp_neg (fun w => ?_) (sp_some ⟨a, p1, p2⟩)
      have w1 : x6.toInt = -1 := by rw [w]; rfl
      clear w
      omega
theorem g5_drawn (F : Nat) {r18 r19 r21 r33 : Nat → Int32} (h18 : 0 ≤ (r18 0).toInt ∧ (r18 0).toInt ≤ 40) {x y : Int32} {s a : Nat} (hx : x.toInt = (s : Nat)) (hs : s < 200) (h33 : 0 ≤ (r33 s).toInt) (hd : dwB r18 r19 r33 s = true) (hy : y.toInt = (a : Nat)) : sp (fnX5_drawn F r19 r21 r33 x y) (fun o => dvR r19 r21 r33 s a o) := by
  have hcx : x.toNatClampNeg = s := by rw [i_cl, hx]; rfl
  have e0 : (0 : Int32).toInt = 0 := rfl
  have w1 := (dwB_t.mp hd).1
  have hib2 : mj_ib (r33 s) 40 = true := mj_ib_of h33 (by omega)
  unfold fnX5_drawn
  refine sp_pos (mj_ib_of (by omega) (by omega)) ?_
  rw [hcx]
  refine sp_pos hib2 ?_
  rw [i_cl]
  unfold dvR
  refine sp_ite (fun q1 => sp_some ?_) (fun q1 => ?_)
  · rw [if_pos q1]; exact hy
  · rw [if_neg q1]
    refine sp_ite (fun q2 => sp_pos hib2 (sp_ite (fun q3 => sp_some ?_) (fun q3 => sp_some ?_))) (fun q2 => sp_some ?_)
    · have := i_le.mp q3
      rw [if_neg (fun z => z.2 (by omega))]; rfl
    · have q3' : ¬ (r21 (r33 s).toInt.toNat).toInt ≤ (0 : Int32).toInt := fun z => q3 (i_le.mpr z)
      rw [if_pos ⟨by rw [q2] at hy; omega, by rw [e0] at q3'; exact q3'⟩]; rfl
    · rw [if_neg (fun z => q2 (i_eq.mpr (by rw [hy, z.1]; rfl)))]; rfl
/-- the draws found -/
def drQ (na : Nat → Nat) (tg : Nat → Nat → Nat) (sh : Nat → Nat → Int) (en dw : Nat → Bool) (r19 r21 r33 : Nat → Int32) (s0 f : Nat) (c : Nat) (r66 : Nat → Int32) : Prop := ∀ j, j < c → ∃ s' a, pth na tg sh en dw (sf na tg en dw 201) j f s0 s' a ∧ dvR r19 r21 r33 s' a (r66 j)
theorem s5_trace (F : Nat) (hF : 3000 ≤ F) {n : Nat} {fr na : Nat → Nat} {tg : Nat → Nat → Nat} {sh : Nat → Nat → Int} {r18 r19 r21 r32 r33 r37 r38 r39 r65 r66 r67 r69 : Nat → Int32} {q68 : Nat → Int64} (h : lG n fr na tg sh r18 r19 r32 r33 r37 r38 r39) (h67 : ∀ i, i < n → oR (sf na tg (en_ r33 (r32 7)) (dwB r18 r19 r33) 201 i) (r67 i)) (hT : ∀ l', l' ≤ 10 → ∀ s, s < n → wR na tg sh (en_ r33 (r32 7)) (dwB r18 r19 r33) l' s r69 q68) {s0 f0 : Nat} (h0 : sf na tg (en_ r33 (r32 7)) (dwB r18 r19 r33) 201 0 = some s0) (hc0 : (r65 2).toInt = 0) (hw : 0 < (q68 (200 * 10 + s0)).toInt) (hf : (r69 (200 * 10 + s0)).toInt = (f0 : Nat)) :
    sp (fnX5_trace F r19 r21 r32 r33 r37 r38 r39 r65 r66 r67 r69 q68) (fun e => (e.1 2).toInt = (f0 : Nat) ∧ (∀ k, k ≠ 2 → e.1 k = r65 k) ∧ drQ na tg sh (en_ r33 (r32 7)) (dwB r18 r19 r33) r19 r21 r33 s0 f0 f0 e.2) := by
  have hshB := lG_shB h
  have hst : ∀ s x, s < n → sf na tg (en_ r33 (r32 7)) (dwB r18 r19 r33) 201 s = some x → x < n := fun s x hs => sf_lt (fun s hs hna => (hshB s hs 0 hna).2.2) 201 s x hs
  have hG := h
  obtain ⟨h1, h2, h3, h4, h5, h6, h7, h8⟩ := h
  have e0 : (0 : Int32).toInt = 0 := rfl
  have e1 : (1 : Int32).toInt = 1 := rfl
  have c00 : (0 : Int32).toNatClampNeg = 0 := rfl
  have hs0 := hst 0 s0 h2 h0
  have hr0 : (r67 0).toInt = (s0 : Nat) := by
    have := h67 0 h2
    rw [h0] at this
    exact this
  unfold fnX5_trace
  refine sp_pos (by decide) ?_
  rw [c00]
  refine sp_bind (sp_it (J := fun t : Int32 × Int32 × (Nat → Int32) × (Nat → Int32) => ∃ c at_ : Nat, c ≤ 10 ∧ t.1.toInt = (at_ : Nat) ∧ at_ < n ∧ t.2.1.toInt = ((10 - c : Nat) : Int) ∧ (t.2.2.1 2).toInt = (c : Nat) ∧ (∀ k, k ≠ 2 → t.2.2.1 k = r65 k) ∧ (en_ r33 (r32 7) at_ = true ∨ dwB r18 r19 r33 at_ = true) ∧ c ≤ f0 ∧ 0 < (q68 (200 * (10 - c) + at_)).toInt ∧ (r69 (200 * (10 - c) + at_)).toInt = ((f0 - c : Nat) : Int) ∧ drQ na tg sh (en_ r33 (r32 7)) (dwB r18 r19 r33) r19 r21 r33 s0 f0 c t.2.2.2 ∧ ∀ j s' a, pth na tg sh (en_ r33 (r32 7)) (dwB r18 r19 r33) (sf na tg (en_ r33 (r32 7)) (dwB r18 r19 r33) 201) j (f0 - c) at_ s' a → pth na tg sh (en_ r33 (r32 7)) (dwB r18 r19 r33) (sf na tg (en_ r33 (r32 7)) (dwB r18 r19 r33) 201) (c + j) f0 s0 s' a) (Q := fun e : ((Nat → Int32) × (Nat → Int32)) ⊕ ((Nat → Int32) × (Nat → Int32)) => Sum.elim (fun e : (Nat → Int32) × (Nat → Int32) => (e.1 2).toInt = ((f0 : Nat) : Int) ∧ (∀ k, k ≠ 2 → e.1 k = r65 k) ∧ drQ na tg sh (en_ r33 (r32 7)) (dwB r18 r19 r33) r19 r21 r33 s0 f0 f0 e.2) (fun _ => False) e) (fun t => t.2.1.toInt.toNat) ?_ F _ ?_ ?_) ?_
  · rintro ⟨x3, x4, a65, a66⟩ ⟨c, s, i1, i2, i3, i4, i5, i6, i7, i8, i9, i10, i11, i12⟩
    refine sp_u2 (sp_u2 (sp_u2 ?_))
    dsimp only at i2 i4 i5 i6 i11
    obtain ⟨f, g1, g2⟩ := hT (10 - c) (by omega) s i3 i7
    have hfe : f = f0 - c := by omega
    subst hfe
    have hend : en_ r33 (r32 7) s = true → f0 = c := by
      intro he
      have := (wS_one g2 (wS_en he (10 - c))).2 i9
      omega
    unfold bdX5_trace_11
    refine sp_ite (fun q1 => sp_some ?_) (fun q1 => ?_)
    · have := i_le.mp q1
      have hle := (g2.2.2.2 i9).1
      have : f0 = c := by omega
      subst this
      exact ⟨i5, i6, i11⟩
    · have q1' : ¬ x4.toInt ≤ (0 : Int32).toInt := fun z => q1 (i_le.mpr z)
      rw [g4_isEnd F i2 (by omega), Option.bind_some]
      by_cases q2 : en_ r33 (r32 7) s = true
      · have := hend q2
        subst this
        rw [if_pos q2, if_neg (show ¬ (1 : Int32) = 0 from by decide)]
        exact sp_some ⟨i5, i6, i11⟩
      · have hdw : dwB r18 r19 r33 s = true := by
          rcases i7 with w | w
          · exact absurd w q2
          · exact w
        rw [if_neg q2, if_pos rfl]
        obtain ⟨l, hl⟩ : ∃ l, 10 - c = l + 1 := ⟨10 - c - 1, by omega⟩
        have hfpos : 0 < f0 - c := by
          rcases Nat.eq_zero_or_pos (f0 - c) with z | z
          · exfalso
            have w1 := (g2.2.2.2 i9).2.1
            rw [z, mm_0 q2, Int.zero_mul] at w1
            omega
          · exact z
        obtain ⟨d, hd⟩ : ∃ d, f0 - c = d + 1 := ⟨f0 - c - 1, by omega⟩
        rw [hl] at g2 i4 i9 i10
        rw [hd] at g2 i10
        have hl9 : l ≤ 9 := by omega
        obtain ⟨hcell, ccell, ibcell⟩ := ix200 i4 i2 (by omega) (by omega)
        have cx3 : x3.toNatClampNeg = s := by rw [i_cl, i2]; rfl
        have ib3 : mj_ib x3 201 = true := mj_ib_of (by omega) (by omega)
        obtain ⟨a1, a2, a3, a4⟩ := h6 s i3
        refine sp_pos ib3 ?_
        rw [cx3]
        generalize x4 * 200 + x3 = cell at hcell ccell ibcell ⊢
        refine sp_bind (s5_choose F hF hG h67 hT i3 hl9 i2 hcell q2 hdw i10 i9 g2 (show (-1 : Int32).toInt = -1 from rfl)) ?_
        rintro y ⟨a, p1, p2⟩
        have hneg : ¬ y = -1 := fun w => by
          have w1 : y.toInt = -1 := by rw [w]; rfl
          clear w
          omega
        refine sp_neg hneg (sp_pos ib3 ?_)
        clear hneg
        obtain ⟨hk, hv, hmin⟩ := id p1
        have hya : (y - r37 s).toInt = (a : Nat) := by rw [i_sub (by omega) (by omega), p2, a1]; omega
        obtain ⟨t1, t2⟩ := a4 a hk
        have cy : y.toNatClampNeg = fr s + a := by rw [i_cl, p2]; rfl
        have iby : mj_ib y 2000 = true := mj_ib_of (by omega) (by omega)
        have ct : (r38 (fr s + a)).toNatClampNeg = tg s a := by rw [i_cl, t1]; rfl
        have ibt : mj_ib (r38 (fr s + a)) 200 = true := mj_ib_of (by omega) (by omega)
        have ib2 : mj_ib (a65 2) 10 = true := mj_ib_of (by omega) (by omega)
        have c65 : (a65 2).toNatClampNeg = c := by rw [i_cl, i5]; rfl
        refine sp_bind (g5_drawn F (r18 := r18) (r21 := r21) h4 i2 (by omega) (h8 s i3).1 hdw hya) (fun o21 h21 => ?_)
        refine sp_pos ib2 (sp_pos iby ?_)
        rw [cy]
        refine sp_pos ibt ?_
        rw [ct]
        have hmp : 0 < vl na tg sh (en_ r33 (r32 7)) (dwB r18 r19 r33) (sf na tg (en_ r33 (r32 7)) (dwB r18 r19 r33) 201) s a d := by
          rw [hv]
          have w1 := (g2.2.2.2 i9).2.1
          have w2 := (mm_b (en := en_ r33 (r32 7)) (dw := dwB r18 r19 r33) hshB hst (d + 1) s i3).1
          rcases Int.lt_or_le 0 (mm na tg sh (en_ r33 (r32 7)) (dwB r18 r19 r33) (sf na tg (en_ r33 (r32 7)) (dwB r18 r19 r33) 201) (d + 1) s) with z | z
          · exact z
          · have z2 : mm na tg sh (en_ r33 (r32 7)) (dwB r18 r19 r33) (sf na tg (en_ r33 (r32 7)) (dwB r18 r19 r33) 201) (d + 1) s = 0 := by omega
            rw [z2, Int.zero_mul] at w1
            omega
        obtain ⟨u, hu⟩ := vl_pos hmp
        have hun := hst _ _ t2 hu
        obtain ⟨f', g1', g2'⟩ := hT l (by omega) u hun (sf_is 201 _ _ hu)
        have hsh := (hshB s i3 a hk)
        have harc := (wS_arc q2 hdw hk i9 g2 hu ⟨hsh.1, hsh.2.1⟩ g2').mpr hv
        have hw' : 0 < (q68 (200 * l + u)).toInt := by
          rcases Int.lt_or_le 0 (q68 (200 * l + u)).toInt with w | w
          · exact w
          · have w2 : (q68 (200 * l + u)).toInt = 0 := by
              have := g2'.1
              omega
            have w3 := harc.1
            rw [w2, Int.mul_zero] at w3
            omega
        have hro : (r67 (tg s a)).toInt = (u : Nat) := by
          have := h67 (tg s a) t2
          rw [hu] at this
          exact this
        have e10c : 10 - (c + 1) = l := by omega
        have efd : f0 - (c + 1) = d := by omega
        have hf'd : f' = d := by omega
        refine sp_some ⟨⟨c + 1, u, by omega, hro, hun, ?_, ?_, fun k hk => ?_, sf_is 201 _ _ hu, by omega, ?_, ?_, fun j hj => ?_, fun j s' a' hp => ?_⟩, ?_⟩
        · rw [e10c]
          exact (i_dec i4 (by omega)).trans (by omega)
        · dsimp only; rw [upd_at, i_add (by omega) (by omega), i5, e1]; omega
        · dsimp only; rw [upd_ne hk]; exact i6 k hk
        · rw [e10c]; exact hw'
        · rw [e10c, efd, ← hf'd]; exact g1'
        · dsimp only
          rw [c65]
          by_cases ej : j = c
          · rw [ej, upd_at]
            refine ⟨s, a, i12 0 s a ⟨rfl, d, hd, p1⟩, h21⟩
          · rw [upd_ne ej]; exact i11 j (by omega)
        · rw [efd] at hp
          have := i12 (j + 1) s' a' ⟨d, a, u, hd, p1, hu, hp⟩
          rwa [show c + (j + 1) = c + 1 + j by omega] at this
        · have h9 := i_dec i4 (by omega)
          exact mu_dec2 h9 i4
  · refine ⟨0, s0, by omega, hr0, hs0, rfl, hc0, fun _ _ => rfl, sf_is 201 _ _ h0, by omega, hw, hf, fun j hj => absurd hj (Nat.not_lt_zero j), fun j s' a hp => ?_⟩
    rw [show 0 + j = j by omega]
    exact hp
  · show ((10 : Int32).toInt).toNat < F
    have : (10 : Int32).toInt = 10 := rfl
    rw [this]
    omega
  · rintro (⟨a65, a66⟩ | ⟨a65, a66⟩) hs
    · exact sp_u2 (sp_some hs)
    · exact absurd hs id
