/-! ===== the likeliest run: the reference weighs, its length, its draws ===== -/
theorem dw_en {r18 r19 r32 r33 : Nat → Int32} {s : Nat} (h7 : (r32 7).toInt = (r18 0).toInt) (hd : dwB r18 r19 r33 s = true) : ¬ en_ r33 (r32 7) s = true := by
  intro he
  have w1 := (dwB_t.mp hd).1
  have w2 : r33 s = r32 7 := of_decide_eq_true he
  rw [w2] at w1
  omega
theorem op_b {n : Nat} {na : Nat → Nat} {tg : Nat → Nat → Nat} {sh : Nat → Nat → Int} {en dw : Nat → Bool} {st : Nat → Option Nat} (hs : shB n na tg sh) (hst : ∀ s x, s < n → st s = some x → x < n) {t : Nat} (ht : t < n) (d : Nat) : 0 ≤ op (mm na tg sh en dw st d) (st t) ∧ op (mm na tg sh en dw st d) (st t) ≤ 60 ^ d := by
  cases hq : st t with
  | none => exact ⟨Int.le_refl _, by have := pow60_pos d; show (0 : Int) ≤ 60 ^ d; omega⟩
  | some u => exact mm_b hs hst d u (hst _ _ ht hq)
theorem s11_w23 (F : Nat) (hF : 600 ≤ F) {n : Nat} {na : Nat → Nat} {tg : Nat → Nat → Nat} {sh : Nat → Nat → Int} {r18 r19 r21 r32 r33 r71 r73 r80 r83 r84 r85 : Nat → Int32} {q96 : Nat → Int64} (h : lH n na tg sh r18 r19 r21 r32 r33 r71 r73 r80 r83 r84 r85) {x1 x2 : Int32} {d i : Nat} (hx1 : x1.toInt = (d : Nat)) (hd : d ≤ 10) (hx2 : x2.toInt = (i : Nat)) (hi : i < n) (hT : ∀ d', d = d' + 1 → tbQ n na tg sh (en_ r33 (r32 7)) (dwB r18 r19 r33) d' q96) :
    sp (mj_it (mj_u2 (fun z0 z1 => bdX11_weighs_23 F r71 r73 r80 r83 r84 r85 q96 x1 x2 z0 z1)) F ((0 : Int64), (0 : Int32))) (fun o => ¬ en_ r33 (r32 7) i = true → o.toInt = mm na tg sh (en_ r33 (r32 7)) (dwB r18 r19 r33) (sf na tg (en_ r33 (r32 7)) (dwB r18 r19 r33) 201) d i) := by
  have hshB := lH_shB h
  have hst : ∀ s x, s < n → sf na tg (en_ r33 (r32 7)) (dwB r18 r19 r33) 201 s = some x → x < n := fun s x hs => sf_lt (fun s hs hna => (hshB s hs 0 hna).2.2) 201 s x hs
  have hG := h
  obtain ⟨h1, h2, h3, h4, h5, h6, h7, h8, h9, h10⟩ := h
  have e0 : (0 : Int32).toInt = 0 := rfl
  have e1 : (1 : Int32).toInt = 1 := rfl
  have l0 : (0 : Int64).toInt = 0 := rfl
  have cx2 : x2.toNatClampNeg = i := by rw [i_cl, hx2]; rfl
  have ib2 : mj_ib x2 200 = true := mj_ib_of (by omega) (by omega)
  obtain ⟨a1, a2, a3⟩ := h7 i hi
  by_cases hcase : d = 0 ∨ ¬ dwB r18 r19 r33 i = true
  · refine sp_mono (sp_it (J := fun s : Int64 × Int32 => s.1 = 0) (Q := fun e : Int64 => e = 0) (fun _ => 0) ?_ F _ rfl (by omega)) ?_
    · rintro ⟨x3, x5⟩ hJ
      refine sp_u2 ?_
      dsimp only at hJ
      unfold bdX11_weighs_23
      refine sp_pos ib2 (sp_ite (fun _ => sp_some hJ) (fun _ => sp_ite (fun _ => sp_some hJ) (fun q => ?_)))
      have q' : ¬ x1.toInt ≤ (0 : Int32).toInt := fun z => q (i_le.mpr z)
      rw [g11_isDrawn F hG hx2 hi, Option.bind_some]
      rcases hcase with w | w
      · omega
      · rw [if_neg w, if_pos rfl]
        exact sp_some hJ
    · rintro e rfl hne
      rw [l0]
      rcases hcase with w | w
      · rw [w, mm_0 hne]
      · rw [mm_no hne w]
  · have hd0 : d ≠ 0 := fun z => hcase (Or.inl z)
    have hdw : dwB r18 r19 r33 i = true := Classical.byContradiction (fun z => hcase (Or.inr z))
    obtain ⟨d', rfl⟩ : ∃ d', d = d' + 1 := ⟨d - 1, by omega⟩
    have hT' := hT d' rfl
    have p10 := pow60_10 (d' + 1) hd
    have x11 : (x1 - 1).toInt = (d' : Nat) := by rw [i_sub (by omega) (by omega), hx1, e1]; omega
    refine sp_mono (sp_cnt (fun s : Int64 × Int32 => s.2) (na i) (by omega) (fun k s => s.1.toInt = mk k (fun k => vl na tg sh (en_ r33 (r32 7)) (dwB r18 r19 r33) (sf na tg (en_ r33 (r32 7)) (dwB r18 r19 r33) 201) i k d')) (Q := fun e : Int64 => e.toInt = mk (na i) (fun k => vl na tg sh (en_ r33 (r32 7)) (dwB r18 r19 r33) (sf na tg (en_ r33 (r32 7)) (dwB r18 r19 r33) 201) i k d')) ?_ F 0 _ (by omega) e0 rfl (by omega)) (fun e he hne => by rw [mm_dw hne hdw]; exact he)
    rintro k ⟨x3, x5⟩ hk hx hcx hxs hJ
    refine sp_u2 ?_
    dsimp only at hx hcx hxs hJ
    unfold bdX11_weighs_23
    refine sp_pos ib2 ?_
    rw [cx2]
    refine sp_ite (fun q => sp_some ?_) (fun q => ?_)
    · have := i_le.mp q
      have : k = na i := by omega
      subst this
      exact hJ
    · have q' : ¬ (r83 i).toInt ≤ x5.toInt := fun z => q (i_le.mpr z)
      have hkn : k < na i := by omega
      refine sp_neg (fun z => by have := i_le.mp z; omega) ?_
      rw [g11_isDrawn F hG hx2 hi, Option.bind_some, if_pos hdw, if_neg (show ¬ (1 : Int32) = 0 from by decide)]
      obtain ⟨t1, t2⟩ := a3 k hkn
      obtain ⟨s1, s2⟩ := h8 i hi k hkn
      have hk10 : k < 10 := by omega
      have hi2 : i < 200 := by omega
      have hop := op_b (en := en_ r33 (r32 7)) (dw := dwB r18 r19 r33) hshB hst t2 d'
      have p9 := pow60_10 d' (by omega)
      obtain ⟨c1, ib1⟩ := ix10 hx2 hx hi2 hk10
      refine sp_pos ib1 (sp_pos ib1 ?_)
      rw [c1]
      clear c1
      refine sp_bind (s11_mostOf F hF hG (d := d') x11 (by omega) t1 t2 hT') (fun o8 h8' => ?_)
      have hm0 : 0 ≤ sh i k * o8.toInt := by rw [h8']; exact Int.mul_nonneg (by omega) hop.1
      have hm1 : sh i k * o8.toInt ≤ 604661760000000000 := by
        have b1 : sh i k * o8.toInt ≤ 60 * o8.toInt := Int.mul_le_mul_of_nonneg_right s2.2 (by rw [h8']; exact hop.1)
        have b2 : (60 : Int) ^ (d' + 1) = 60 ^ d' * 60 := Int.pow_succ _ _
        omega
      have hmul := l_sh s1 (b := o8) rfl s2 ⟨by omega, by omega⟩ ⟨hm0, hm1⟩
      rw [h8'] at hmul
      generalize (r85 (10 * i + k)).toInt64 * o8 = pr_ at hmul ⊢
      have hvl : pr_.toInt = vl na tg sh (en_ r33 (r32 7)) (dwB r18 r19 r33) (sf na tg (en_ r33 (r32 7)) (dwB r18 r19 r33) 201) i k d' := hmul
      refine sp_some ⟨hkn, rfl, ?_⟩
      dsimp only
      rw [mk_s, ← hvl, ← hJ]
      by_cases e : pr_ < x3
      · rw [if_pos e, if_pos (l_lt.mp e)]
      · rw [if_neg e, if_neg (fun z => e (l_lt.mpr z))]
theorem s11_weighs (F : Nat) (hF : 600 ≤ F) {n : Nat} {na : Nat → Nat} {tg : Nat → Nat → Nat} {sh : Nat → Nat → Int} {r18 r19 r21 r32 r33 r71 r73 r80 r83 r84 r85 : Nat → Int32} {q96 : Nat → Int64} (h : lH n na tg sh r18 r19 r21 r32 r33 r71 r73 r80 r83 r84 r85) :
    sp (fnX11_weighs F r71 r73 r80 r83 r84 r85 q96) (fun e => ∀ d, d ≤ 10 → tbQ n na tg sh (en_ r33 (r32 7)) (dwB r18 r19 r33) d e) := by
  have hG := h
  obtain ⟨h1, h2, h3, h4, h5, h6, h7, h8, h9, h10⟩ := h
  have e0 : (0 : Int32).toInt = 0 := rfl
  have e10 : (10 : Int32).toInt = 10 := rfl
  unfold fnX11_weighs
  refine sp_bind (sp_cnt (fun s : Int32 × (Nat → Int64) => s.1) 11 (by omega) (fun d s => ∀ d', d' < d → tbQ n na tg sh (en_ r33 (r32 7)) (dwB r18 r19 r33) d' s.2) (Q := fun e : Nat → Int64 => ∀ d, d ≤ 10 → tbQ n na tg sh (en_ r33 (r32 7)) (dwB r18 r19 r33) d e) ?_ F 0 _ (by omega) e0 (fun d' hd => absurd hd (Nat.not_lt_zero d')) (by omega)) (fun e he => sp_some he)
  rintro d ⟨x, a96⟩ hi hx hcx hxs hJ
  refine sp_u2 ?_
  dsimp only at hx hcx hxs hJ
  unfold bdX11_weighs_2
  refine sp_ite (fun hw => sp_some ?_) (fun hw => ?_)
  · have := i_lt.mp hw
    intro d' hd'
    exact hJ d' (by omega)
  · have hw2 : ¬ (10 : Int32).toInt < x.toInt := fun q => hw (i_lt.mpr q)
    have hd : d ≤ 10 := by omega
    refine sp_bind (sp_cnt (fun s : Int32 × (Nat → Int64) => s.1) n (by omega) (fun i s => (∀ d', d' < d → tbQ n na tg sh (en_ r33 (r32 7)) (dwB r18 r19 r33) d' s.2) ∧ ∀ t, t < i → ¬ en_ r33 (r32 7) t = true → (s.2 (200 * d + t)).toInt = mm na tg sh (en_ r33 (r32 7)) (dwB r18 r19 r33) (sf na tg (en_ r33 (r32 7)) (dwB r18 r19 r33) 201) d t) (Q := fun e : Nat → Int64 => ∀ d', d' < d + 1 → tbQ n na tg sh (en_ r33 (r32 7)) (dwB r18 r19 r33) d' e) ?_ F 0 _ (by omega) e0 ⟨hJ, fun t ht => absurd ht (Nat.not_lt_zero t)⟩ (by omega)) (fun e he => sp_some ⟨by omega, rfl, he⟩)
    rintro i ⟨y, b96⟩ hi' hy hcy hys ⟨j1, j2⟩
    refine sp_u2 ?_
    dsimp only at hy hcy hys j1 j2
    unfold bdX11_weighs_10
    refine sp_ite (fun hw => sp_some ?_) (fun hw => ?_)
    · have := i_le.mp hw
      have : i = n := by omega
      subst this
      intro d' hd'
      by_cases e : d' = d
      · rw [e]; exact j2
      · exact j1 d' (by omega)
    · have hw2 : ¬ (r71 24).toInt ≤ y.toInt := fun q => hw (i_le.mpr q)
      have hin : i < n := by omega
      have hi2 : i < 200 := by omega
      refine sp_bind (s11_w23 F hF hG hx hd hy hin (fun d' hd' => j1 d' (by omega))) (fun o ho => ?_)
      obtain ⟨c1, ib1⟩ := ix200b hx hy hd hi2
      refine sp_pos ib1 (sp_some ⟨hin, rfl, ?_⟩)
      dsimp only
      rw [c1]
      clear c1
      refine ⟨fun d' hd' t ht hne => ?_, fun t ht hne => ?_⟩
      · rw [updL_ne (by omega)]
        exact j1 d' hd' t ht hne
      · by_cases e : t = i
        · rw [e, updL_at]
          rw [e] at hne
          exact ho hne
        · rw [updL_ne (by omega)]
          exact j2 t (by omega) hne
theorem s11_sixties (F : Nat) (hF : 600 ≤ F) {x : Int32} {m : Nat} (hx : x.toInt = (m : Nat)) (hm : m ≤ 10) : sp (fnX11_sixties F x) (fun o => o.toInt = 60 ^ m) := by
  have e0 : (0 : Int32).toInt = 0 := rfl
  unfold fnX11_sixties
  refine sp_bind (sp_cnt (fun s : Int64 × Int32 => s.2) m (by omega) (fun i s => s.1.toInt = 60 ^ i) (Q := fun e : Int64 => e.toInt = 60 ^ m) ?_ F 0 _ (by omega) e0 rfl (by omega)) (fun e he => sp_some he)
  rintro i ⟨v, y⟩ hi hy hcy hys hJ
  refine sp_u2 ?_
  dsimp only at hy hcy hys hJ
  unfold bdX11_sixties_4
  refine sp_ite (fun hw => sp_some ?_) (fun hw => ?_)
  · have := i_le.mp hw
    have : i = m := by omega
    subst this
    exact hJ
  · have hw2 : ¬ x.toInt ≤ y.toInt := fun q => hw (i_le.mpr q)
    exact sp_some ⟨by omega, rfl, l_60 hJ (by omega)⟩
theorem l_pm {a b : Int64} {u v : Int} (ha : a.toInt = u) (hb : b.toInt = v) (hm : 0 ≤ u * v ∧ u * v ≤ 604661760000000000) : (a * b).toInt = u * v := by
  rw [l_mul (by rw [ha, hb]; omega) (by rw [ha, hb]; omega), ha, hb]
/-- the worth of d draws -/
def vd (na : Nat → Nat) (tg : Nat → Nat → Nat) (sh : Nat → Nat → Int) (en dw : Nat → Bool) (d : Nat) : Int := op (mm na tg sh en dw (sf na tg en dw 201) d) (sf na tg en dw 201 0) * 60 ^ (10 - d)
theorem vd_b {n : Nat} {na : Nat → Nat} {tg : Nat → Nat → Nat} {sh : Nat → Nat → Int} {en dw : Nat → Bool} (hs : shB n na tg sh) (hst : ∀ s x, s < n → sf na tg en dw 201 s = some x → x < n) (hn : 0 < n) {d : Nat} (hd : d ≤ 10) : 0 ≤ vd na tg sh en dw d ∧ vd na tg sh en dw d ≤ 604661760000000000 := by
  obtain ⟨h1, h2⟩ := op_b (en := en) (dw := dw) (st := sf na tg en dw 201) hs hst hn d
  unfold vd
  refine ⟨Int.mul_nonneg h1 (Int.le_of_lt (pow60_pos _)), ?_⟩
  have h3 := Int.mul_le_mul_of_nonneg_right h2 (Int.le_of_lt (pow60_pos (10 - d)))
  rw [← Int.pow_add, show d + (10 - d) = 10 by omega] at h3
  have h4 : (60 : Int) ^ 10 = 604661760000000000 := by decide
  omega
theorem s11_vd (F : Nat) (hF : 600 ≤ F) {n : Nat} {na : Nat → Nat} {tg : Nat → Nat → Nat} {sh : Nat → Nat → Int} {r18 r19 r21 r32 r33 r71 r73 r80 r83 r84 r85 : Nat → Int32} {q96 : Nat → Int64} (h : lH n na tg sh r18 r19 r21 r32 r33 r71 r73 r80 r83 r84 r85) (hT : ∀ d, d ≤ 10 → tbQ n na tg sh (en_ r33 (r32 7)) (dwB r18 r19 r33) d q96) {x : Int32} {d : Nat} (hx : x.toInt = (d : Nat)) (hd : d ≤ 10) : ∃ o2 o3, fnX11_mostOf F r71 r73 r80 r83 r84 q96 x 0 = some o2 ∧ fnX11_sixties F (10 - x) = some o3 ∧ (o2 * o3).toInt = vd na tg sh (en_ r33 (r32 7)) (dwB r18 r19 r33) d := by
  have hshB := lH_shB h
  have hst : ∀ s x, s < n → sf na tg (en_ r33 (r32 7)) (dwB r18 r19 r33) 201 s = some x → x < n := fun s x hs => sf_lt (fun s hs hna => (hshB s hs 0 hna).2.2) 201 s x hs
  have e10 : (10 : Int32).toInt = 10 := rfl
  have hx10 : (10 - x).toInt = ((10 - d : Nat) : Int) := by rw [i_sub (by omega) (by omega), e10, hx]; omega
  obtain ⟨o2, a1, a2⟩ := s11_mostOf F hF h (x2 := 0) (i := 0) hx hd rfl h.2.1 (hT d hd)
  obtain ⟨o3, b1, b2⟩ := s11_sixties F hF hx10 (by omega)
  refine ⟨o2, o3, a1, b1, l_pm a2 b2 ?_⟩
  have := vd_b (na := na) (tg := tg) (sh := sh) (en := en_ r33 (r32 7)) (dw := dwB r18 r19 r33) hshB hst h.2.1 hd
  exact this
theorem s11_length (F : Nat) (hF : 600 ≤ F) {n : Nat} {na : Nat → Nat} {tg : Nat → Nat → Nat} {sh : Nat → Nat → Int} {r18 r19 r21 r32 r33 r71 r73 r80 r83 r84 r85 : Nat → Int32} {q96 : Nat → Int64} (h : lH n na tg sh r18 r19 r21 r32 r33 r71 r73 r80 r83 r84 r85) :
    sp (fnX11_length F r71 r73 r80 r83 r84 r85 q96) (fun e => (∀ d, d ≤ 10 → tbQ n na tg sh (en_ r33 (r32 7)) (dwB r18 r19 r33) d e.2) ∧ ((e.1.toInt = -1 ∧ ∀ d, d ≤ 10 → vd na tg sh (en_ r33 (r32 7)) (dwB r18 r19 r33) d ≤ 0) ∨ ∃ b : Nat, e.1.toInt = (b : Nat) ∧ b ≤ 10 ∧ 0 < vd na tg sh (en_ r33 (r32 7)) (dwB r18 r19 r33) b ∧ (∀ d, d ≤ 10 → vd na tg sh (en_ r33 (r32 7)) (dwB r18 r19 r33) d ≤ vd na tg sh (en_ r33 (r32 7)) (dwB r18 r19 r33) b) ∧ ∀ d, d < b → vd na tg sh (en_ r33 (r32 7)) (dwB r18 r19 r33) d < vd na tg sh (en_ r33 (r32 7)) (dwB r18 r19 r33) b)) := by
  have e0 : (0 : Int32).toInt = 0 := rfl
  have e10 : (10 : Int32).toInt = 10 := rfl
  have l0 : (0 : Int64).toInt = 0 := rfl
  unfold fnX11_length
  refine sp_bind (s11_weighs F hF (q96 := q96) h) (fun a96 hT => ?_)
  have em1 : (-1 : Int32).toInt = -1 := rfl
  refine sp_bind (sp_cnt (fun s : Int32 × Int32 => s.2) 11 (by omega) (fun d s => (s.1.toInt = -1 ∧ ∀ d', d' < d → vd na tg sh (en_ r33 (r32 7)) (dwB r18 r19 r33) d' ≤ 0) ∨ ∃ b : Nat, s.1.toInt = (b : Nat) ∧ b < d ∧ 0 < vd na tg sh (en_ r33 (r32 7)) (dwB r18 r19 r33) b ∧ (∀ d', d' < d → vd na tg sh (en_ r33 (r32 7)) (dwB r18 r19 r33) d' ≤ vd na tg sh (en_ r33 (r32 7)) (dwB r18 r19 r33) b) ∧ ∀ d', d' < b → vd na tg sh (en_ r33 (r32 7)) (dwB r18 r19 r33) d' < vd na tg sh (en_ r33 (r32 7)) (dwB r18 r19 r33) b) (Q := fun e : Int32 => (e.toInt = -1 ∧ ∀ d, d ≤ 10 → vd na tg sh (en_ r33 (r32 7)) (dwB r18 r19 r33) d ≤ 0) ∨ ∃ b : Nat, e.toInt = (b : Nat) ∧ b ≤ 10 ∧ 0 < vd na tg sh (en_ r33 (r32 7)) (dwB r18 r19 r33) b ∧ (∀ d, d ≤ 10 → vd na tg sh (en_ r33 (r32 7)) (dwB r18 r19 r33) d ≤ vd na tg sh (en_ r33 (r32 7)) (dwB r18 r19 r33) b) ∧ ∀ d, d < b → vd na tg sh (en_ r33 (r32 7)) (dwB r18 r19 r33) d < vd na tg sh (en_ r33 (r32 7)) (dwB r18 r19 r33) b) ?_ F 0 _ (by omega) e0 (Or.inl ⟨em1, fun d hd => absurd hd (Nat.not_lt_zero d)⟩) (by omega)) (fun e he => sp_some ⟨hT, he⟩)
  clear em1
  rintro d ⟨x1, x⟩ hi hx hcx hxs hJ
  refine sp_u2 ?_
  dsimp only at hx hcx hxs hJ
  unfold bdX11_length_8
  refine sp_ite (fun hw => sp_some ?_) (fun hw => ?_)
  · have := i_lt.mp hw
    rcases hJ with ⟨j1, j2⟩ | ⟨b, j1, j2, j3, j4, j5⟩
    · exact Or.inl ⟨j1, fun d' hd' => j2 d' (by omega)⟩
    · exact Or.inr ⟨b, j1, by omega, j3, fun d' hd' => j4 d' (by omega), j5⟩
  · have hw2 : ¬ (10 : Int32).toInt < x.toInt := fun q => hw (i_lt.mpr q)
    have hd : d ≤ 10 := by omega
    have hd11 : d < 11 := by omega
    obtain ⟨o2, o3, a1, a2, a3⟩ := s11_vd F hF h hT hx hd
    rw [a1, Option.bind_some, a2, Option.bind_some]
    generalize o2 * o3 = p at a3 ⊢
    rcases hJ with ⟨j1, j2⟩ | ⟨b, j1, j2, j3, j4, j5⟩
    · refine sp_pos (i_eq.mpr j1) (sp_ite (fun q => sp_some ⟨hd11, rfl, Or.inl ⟨j1, fun d' hd' => ?_⟩⟩) (fun q => sp_some ⟨hd11, rfl, Or.inr ⟨d, hx, by omega, ?_, fun d' hd' => ?_, fun d' hd' => ?_⟩⟩))
      · by_cases e : d' = d
        · rw [e, ← a3]; exact l_le.mp q
        · exact j2 d' (by omega)
      · have q' : ¬ p.toInt ≤ (0 : Int64).toInt := fun z => q (l_le.mpr z)
        rw [a3, l0] at q'
        omega
      · have q' : ¬ p.toInt ≤ (0 : Int64).toInt := fun z => q (l_le.mpr z)
        rw [a3, l0] at q'
        by_cases e : d' = d
        · rw [e]; exact Int.le_refl _
        · have := j2 d' (by omega)
          omega
      · have q' : ¬ p.toInt ≤ (0 : Int64).toInt := fun z => q (l_le.mpr z)
        rw [a3, l0] at q'
        have := j2 d' hd'
        omega
    · have hneg : ¬ x1 = -1 := fun w => by
        have w1 : x1.toInt = -1 := by rw [w]; rfl
        clear w
        omega
      refine sp_neg hneg ?_
      clear hneg
      obtain ⟨o5, o6, b1, b2, b3⟩ := s11_vd F hF h hT j1 (by omega)
      rw [b1, Option.bind_some, b2, Option.bind_some]
      generalize o5 * o6 = p' at b3 ⊢
      refine sp_ite (fun q => sp_some ⟨hd11, rfl, Or.inr ⟨b, j1, by omega, j3, fun d' hd' => ?_, j5⟩⟩) (fun q => sp_some ⟨hd11, rfl, Or.inr ⟨d, hx, by omega, ?_, fun d' hd' => ?_, fun d' hd' => ?_⟩⟩)
      · by_cases e : d' = d
        · rw [e, ← a3, ← b3]; exact l_le.mp q
        · exact j4 d' (by omega)
      · have q' : ¬ p.toInt ≤ p'.toInt := fun z => q (l_le.mpr z)
        rw [a3, b3] at q'
        omega
      · have q' : ¬ p.toInt ≤ p'.toInt := fun z => q (l_le.mpr z)
        rw [a3, b3] at q'
        by_cases e : d' = d
        · rw [e]; exact Int.le_refl _
        · have := j4 d' (by omega)
          omega
      · have q' : ¬ p.toInt ≤ p'.toInt := fun z => q (l_le.mpr z)
        rw [a3, b3] at q'
        have := j4 d' hd'
        omega
