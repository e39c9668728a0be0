/-! ===== the likeliest run: the reference's draws; both ===== -/
theorem s11_pick (F : Nat) (hF : 600 ≤ F) {n : Nat} {na : Nat → Nat} {tg : Nat → Nat → Nat} {sh : Nat → Nat → Int} {r18 r19 r21 r32 r33 r71 r73 r80 r83 r84 r85 : Nat → Int32} {q96 : Nat → Int64} (h : lH n na tg sh r18 r19 r21 r32 r33 r71 r73 r80 r83 r84 r85) (hT : ∀ d, d ≤ 10 → tbQ n na tg sh (en_ r33 (r32 7)) (dwB r18 r19 r33) d q96) {x1 x2 x3 x4 : Int32} {s d : Nat} (hs : s < n) (hx3 : x3.toInt = (s : Nat)) (hx4 : x4.toInt = ((d + 1 : Nat) : Int)) (hd : d + 1 ≤ 10) (he : ¬ en_ r33 (r32 7) s = true) {a : Nat} (ha : isPk na tg sh (en_ r33 (r32 7)) (dwB r18 r19 r33) (sf na tg (en_ r33 (r32 7)) (dwB r18 r19 r33) 201) s d a) :
    sp (mj_it (bdX11_drawnAt_12 F r71 r73 r80 r83 r84 r85 q96 x1 x2 x3 x4) F (0 : Int32)) (fun e => e.toInt = (a : Nat)) := by
  have hshB := lH_shB h
  have hst : ∀ s x, s < n → sf na tg (en_ r33 (r32 7)) (dwB r18 r19 r33) 201 s = some x → x < n := fun s x hs => sf_lt (fun s hs hna => (hshB s hs 0 hna).2.2) 201 s x hs
  have hG := h
  obtain ⟨h1, h2, h3, h4, h5, h6, h7, h8, h9, h10⟩ := h
  have e0 : (0 : Int32).toInt = 0 := rfl
  have e1 : (1 : Int32).toInt = 1 := rfl
  obtain ⟨k1, k2, k3⟩ := ha
  obtain ⟨a1, a2, a3⟩ := h7 s hs
  have x41 : (x4 - 1).toInt = (d : Nat) := by rw [i_sub (by omega) (by omega), hx4, e1]; omega
  have hs2 : s < 200 := by omega
  have hcell := ix200b hx4 hx3 hd hs2
  have hq := hT (d + 1) hd s hs he
  refine sp_cnt (fun s : Int32 => s) a (by omega) (fun _ _ => True) ?_ F 0 _ (by omega) e0 trivial (by omega)
  rintro i y hi hy hcy hys -
  have hin : i < na s := by omega
  have hi10 : i < 10 := by omega
  obtain ⟨t1, t2⟩ := a3 i hin
  obtain ⟨s1, s2⟩ := h8 s hs i hin
  have hop := op_b (en := en_ r33 (r32 7)) (dw := dwB r18 r19 r33) hshB hst t2 d
  have p9 := pow60_10 d (by omega)
  have p10 := pow60_10 (d + 1) hd
  have hia : i < a ∨ i = a := by omega
  unfold bdX11_drawnAt_12
  obtain ⟨c1, ib1⟩ := ix10 hx3 hy hs2 hi10
  refine sp_pos ib1 (sp_pos ib1 ?_)
  rw [c1]
  clear c1
  refine sp_bind (s11_mostOf F hF hG (d := d) x41 (by omega) t1 t2 (hT d (by omega))) (fun o8 h8' => ?_)
  have hm0 : 0 ≤ sh s i * o8.toInt := by rw [h8']; exact Int.mul_nonneg (by omega) hop.1
  have hm1 : sh s i * o8.toInt ≤ 604661760000000000 := by
    have b1 : sh s i * o8.toInt ≤ 60 * o8.toInt := Int.mul_le_mul_of_nonneg_right s2.2 (by rw [h8']; exact hop.1)
    have b2 : (60 : Int) ^ (d + 1) = 60 ^ d * 60 := Int.pow_succ _ _
    omega
  have hmul := l_sh s1 (b := o8) rfl s2 ⟨by omega, by omega⟩ ⟨hm0, hm1⟩
  rw [h8'] at hmul
  generalize (r85 (10 * s + i)).toInt64 * o8 = pr_ at hmul ⊢
  have hvl : pr_.toInt = vl na tg sh (en_ r33 (r32 7)) (dwB r18 r19 r33) (sf na tg (en_ r33 (r32 7)) (dwB r18 r19 r33) 201) s i d := hmul
  refine sp_pos hcell.2 ?_
  rw [hcell.1]
  refine sp_ite (fun q => sp_some ?_) (fun q => sp_some ⟨?_, rfl, trivial⟩)
  · have q' := l_eq.mp q
    rw [hvl, hq] at q'
    rcases hia with w | w
    · exact absurd q' (k3 i w)
    · rw [← w]; exact hy
  · rcases hia with w | w
    · exact w
    · exfalso
      apply q
      refine l_eq.mpr ?_
      rw [hvl, hq, w]
      exact k2
theorem s11_drawnAt (F : Nat) (hF : 600 ≤ F) {n : Nat} {na : Nat → Nat} {tg : Nat → Nat → Nat} {sh : Nat → Nat → Int} {r18 r19 r21 r32 r33 r71 r73 r80 r83 r84 r85 : Nat → Int32} {q96 : Nat → Int64} (h : lH n na tg sh r18 r19 r21 r32 r33 r71 r73 r80 r83 r84 r85) (hT : ∀ d, d ≤ 10 → tbQ n na tg sh (en_ r33 (r32 7)) (dwB r18 r19 r33) d q96) {x1 x2 : Int32} {f k s0 : Nat} (hx1 : x1.toInt = (f : Nat)) (hx2 : x2.toInt = (k : Nat)) (hf : f ≤ 10) (hk : k < f) (h0 : sf na tg (en_ r33 (r32 7)) (dwB r18 r19 r33) 201 0 = some s0) (hp : 0 < mm na tg sh (en_ r33 (r32 7)) (dwB r18 r19 r33) (sf na tg (en_ r33 (r32 7)) (dwB r18 r19 r33) 201) f s0) :
    sp (fnX11_drawnAt F r71 r73 r80 r83 r84 r85 q96 x1 x2) (fun o => ∃ s' a, pth na tg sh (en_ r33 (r32 7)) (dwB r18 r19 r33) (sf na tg (en_ r33 (r32 7)) (dwB r18 r19 r33) 201) k f s0 s' a ∧ dvR r19 r21 r33 s' a o) := by
  have hshB := lH_shB h
  have hst : ∀ s x, s < n → sf na tg (en_ r33 (r32 7)) (dwB r18 r19 r33) 201 s = some x → x < n := fun s x hs => sf_lt (fun s hs hna => (hshB s hs 0 hna).2.2) 201 s x hs
  have hG := h
  obtain ⟨h1, h2, h3, h4, h5, h6, h7, h8, h9, h10⟩ := h
  have e0 : (0 : Int32).toInt = 0 := rfl
  have e1 : (1 : Int32).toInt = 1 := rfl
  have h7' : (r32 7).toInt = (r18 0).toInt := by rw [← h6, h5]
  unfold fnX11_drawnAt
  refine sp_bind (s11_ahead F hF hG (x := 0) (i := 0) rfl h2) (fun o10 ho10 => ?_)
  rw [h0] at ho10
  have ho10' : o10.toInt = (s0 : Nat) := ho10
  have hs0 := hst 0 s0 h2 h0
  refine sp_bind (sp_it (J := fun t : Int32 × Int32 => ∃ c s : Nat, c ≤ k ∧ t.1.toInt = (s : Nat) ∧ s < n ∧ t.2.toInt = ((f - c : Nat) : Int) ∧ (en_ r33 (r32 7) s = true ∨ dwB r18 r19 r33 s = true) ∧ 0 < mm na tg sh (en_ r33 (r32 7)) (dwB r18 r19 r33) (sf na tg (en_ r33 (r32 7)) (dwB r18 r19 r33) 201) (f - c) s ∧ ∀ j s' a, pth na tg sh (en_ r33 (r32 7)) (dwB r18 r19 r33) (sf na tg (en_ r33 (r32 7)) (dwB r18 r19 r33) 201) j (f - c) s s' a → pth na tg sh (en_ r33 (r32 7)) (dwB r18 r19 r33) (sf na tg (en_ r33 (r32 7)) (dwB r18 r19 r33) 201) (c + j) f s0 s' a) (Q := fun e : Int32 × Int32 => ∃ s' a : Nat, e.1.toInt = (s' : Nat) ∧ s' < n ∧ e.2.toInt = (a : Nat) ∧ dwB r18 r19 r33 s' = true ∧ pth na tg sh (en_ r33 (r32 7)) (dwB r18 r19 r33) (sf na tg (en_ r33 (r32 7)) (dwB r18 r19 r33) 201) k f s0 s' a) (fun t => t.2.toInt.toNat) ?_ F _ ?_ ?_) ?_
  · rintro ⟨x3, x4⟩ ⟨c, s, i1, i2, i3, i4, i5, i6, i7⟩
    refine sp_u2 ?_
    dsimp only at i2 i4
    obtain ⟨d, hd⟩ : ∃ d, f - c = d + 1 := ⟨f - c - 1, by omega⟩
    have hne : ¬ en_ r33 (r32 7) s = true := by
      intro z
      rw [mm_en z, if_neg (by omega)] at i6
      exact absurd i6 (by decide)
    have hdw : dwB r18 r19 r33 s = true := by
      rcases i5 with w | w
      · exact absurd w hne
      · exact w
    rw [hd] at i4 i6 i7
    obtain ⟨a, pa⟩ := isPk_ex hne hdw i6
    unfold bdX11_drawnAt_9
    refine sp_bind (s11_pick F hF hG hT i3 i2 i4 (by omega) hne pa) (fun y hy => ?_)
    have hsub : (x1 - x4).toInt = (c : Nat) := by rw [i_sub (by omega) (by omega), hx1, i4]; omega
    refine sp_ite (fun q => sp_some ⟨s, a, i2, i3, hy, hdw, ?_⟩) (fun q => ?_)
    · have q' := i_eq.mp q
      have : k = c := by omega
      have h9' := i7 0 s a ⟨rfl, d, rfl, pa⟩
      rw [this]
      exact h9'
    · have hck : c < k := by
        rcases Nat.lt_or_ge c k with z | z
        · exact z
        · exact absurd (i_eq.mpr (by rw [hsub, hx2]; omega)) q
      obtain ⟨a1, a2, a3⟩ := h7 s i3
      obtain ⟨t1, t2⟩ := a3 a pa.1
      have hs2 : s < 200 := by omega
      have ha10 : a < 10 := by have := pa.1; omega
      obtain ⟨c1, ib1⟩ := ix10 i2 hy hs2 ha10
      refine sp_pos ib1 ?_
      rw [c1]
      clear c1
      refine sp_bind (s11_ahead F hF hG t1 t2) (fun o9 ho9 => ?_)
      have hvp : 0 < vl na tg sh (en_ r33 (r32 7)) (dwB r18 r19 r33) (sf na tg (en_ r33 (r32 7)) (dwB r18 r19 r33) 201) s a d := by rw [pa.2.1]; exact i6
      obtain ⟨u, hu⟩ := vl_pos hvp
      have hun := hst _ _ t2 hu
      rw [hu] at ho9
      have ho9' : o9.toInt = (u : Nat) := ho9
      have efd : f - (c + 1) = d := by omega
      have hmu : 0 < mm na tg sh (en_ r33 (r32 7)) (dwB r18 r19 r33) (sf na tg (en_ r33 (r32 7)) (dwB r18 r19 r33) 201) d u := by
        rw [vl_some hu] at hvp
        have w2 := (mm_b (en := en_ r33 (r32 7)) (dw := dwB r18 r19 r33) hshB hst d u hun).1
        rcases Int.lt_or_le 0 (mm na tg sh (en_ r33 (r32 7)) (dwB r18 r19 r33) (sf na tg (en_ r33 (r32 7)) (dwB r18 r19 r33) 201) d u) with z | z
        · exact z
        · have z2 : mm na tg sh (en_ r33 (r32 7)) (dwB r18 r19 r33) (sf na tg (en_ r33 (r32 7)) (dwB r18 r19 r33) 201) d u = 0 := by omega
          rw [z2, Int.mul_zero] at hvp
          exact absurd hvp (by decide)
      refine sp_some ⟨⟨c + 1, u, hck, ho9', hun, ?_, sf_is 201 _ _ hu, ?_, fun j s' a' hp' => ?_⟩, ?_⟩
      · rw [efd]
        exact (i_dec i4 (by omega)).trans (by omega)
      · rw [efd]; exact hmu
      · rw [efd] at hp'
        have := i7 (j + 1) s' a' ⟨d, a, u, rfl, pa, hu, hp'⟩
        rwa [show c + (j + 1) = c + 1 + j by omega] at this
      · exact mu_dec2 (i_dec i4 (by omega)) i4
  · refine ⟨0, s0, by omega, ho10', hs0, hx1, sf_is 201 _ _ h0, hp, fun j s' a hp' => ?_⟩
    rw [show 0 + j = j by omega]
    exact hp'
  · show x1.toInt.toNat < F
    omega
  · rintro ⟨y, z⟩ ⟨s', a, q1, q2, q3, q4, q5⟩
    refine sp_u2 ?_
    dsimp only at q1 q3
    have cy : y.toNatClampNeg = s' := by rw [i_cl, q1]; rfl
    have iby : mj_ib y 200 = true := mj_ib_of (by omega) (by omega)
    obtain ⟨g1, g2⟩ := h9 s' q2
    obtain ⟨w1, w2⟩ := dwB_t.mp q4
    have hkk : (r33 s').toInt = (((r33 s').toInt.toNat : Nat) : Int) := by omega
    have hof := g_of F r73 (x := r33 s') (w := 0) (r33 s').toInt.toNat 0 hkk rfl (by omega)
    have hof2 := g_of F r73 (x := r33 s') (w := 2) (r33 s').toInt.toNat 2 hkk rfl (by omega)
    obtain ⟨m1, m2⟩ := h10 (r33 s').toInt.toNat (by omega)
    rw [Nat.add_zero, m1] at hof
    refine sp_pos iby ?_
    rw [cy, g1, hof, Option.bind_some]
    refine sp_ite (fun p1 => sp_some ⟨s', a, q5, ?_⟩) (fun p1 => ?_)
    · unfold dvR
      rw [if_pos p1]
      exact q3
    · have p2 : r19 (r33 s').toInt.toNat = 2 := by
        rcases w2 with w | w
        · exact absurd w p1
        · exact w
      obtain ⟨m3, m4⟩ := m2 p2
      rw [m3] at hof2
      unfold fnX11_arcTo
      rw [if_pos iby, cy, g1, hof2, Option.bind_some]
      by_cases p3 : r21 (r33 s').toInt.toNat = 0
      · rw [if_pos p3, Option.bind_some]
        refine sp_some ⟨s', a, q5, ?_⟩
        unfold dvR
        rw [if_neg p1, if_neg (fun z => z.2 (by rw [p3]; exact Int.le_refl _))]
        rfl
      · have p3' : ¬ (r21 (r33 s').toInt.toNat).toInt ≤ 0 := fun z => p3 (i_eq.mpr (by rw [e0]; omega))
        rw [if_neg p3]
        by_cases p4 : z = 0
        · rw [if_pos p4, Option.bind_some]
          refine sp_some ⟨s', a, q5, ?_⟩
          unfold dvR
          rw [if_neg p1, if_pos ⟨by rw [p4, e0] at q3; omega, p3'⟩]
          rfl
        · rw [if_neg p4, Option.bind_some]
          refine sp_some ⟨s', a, q5, ?_⟩
          unfold dvR
          rw [if_neg p1, if_neg (fun w => p4 (i_eq.mpr (by rw [q3, w.1]; rfl)))]
          rfl
theorem dvR_one {r19 r21 r33 : Nat → Int32} {s a : Nat} {o o' : Int32} (h : dvR r19 r21 r33 s a o) (h' : dvR r19 r21 r33 s a o') : o = o' := by
  unfold dvR at h h'
  exact i_eq.mpr (h.trans h'.symm)
/-- the class's cache against the reference's length -/
theorem lk_len {n : Nat} {na : Nat → Nat} {tg : Nat → Nat → Nat} {sh : Nat → Nat → Int} {r18 r19 r21 r32 r33 r65 r66 : Nat → Int32} {q65 : Nat → Int64} (hs : shB n na tg sh) (hst : ∀ s x, s < n → sf na tg (en_ r33 (r32 7)) (dwB r18 r19 r33) 201 s = some x → x < n) (hk : lkQ na tg sh r18 r19 r21 r32 r33 r65 r66 q65) {e : Int32} (he : (e.toInt = -1 ∧ ∀ d, d ≤ 10 → vd na tg sh (en_ r33 (r32 7)) (dwB r18 r19 r33) d ≤ 0) ∨ ∃ b : Nat, e.toInt = (b : Nat) ∧ b ≤ 10 ∧ 0 < vd na tg sh (en_ r33 (r32 7)) (dwB r18 r19 r33) b ∧ (∀ d, d ≤ 10 → vd na tg sh (en_ r33 (r32 7)) (dwB r18 r19 r33) d ≤ vd na tg sh (en_ r33 (r32 7)) (dwB r18 r19 r33) b) ∧ ∀ d, d < b → vd na tg sh (en_ r33 (r32 7)) (dwB r18 r19 r33) d < vd na tg sh (en_ r33 (r32 7)) (dwB r18 r19 r33) b) (hn : 0 < n) :
    (e.toInt = -1 ∧ (q65 1).toInt = 0) ∨ ∃ b s0 : Nat, e.toInt = (b : Nat) ∧ b ≤ 10 ∧ 0 < (q65 1).toInt ∧ (q65 1).toInt = vd na tg sh (en_ r33 (r32 7)) (dwB r18 r19 r33) b ∧ (r65 2).toInt = (b : Nat) ∧ sf na tg (en_ r33 (r32 7)) (dwB r18 r19 r33) 201 0 = some s0 ∧ 0 < mm na tg sh (en_ r33 (r32 7)) (dwB r18 r19 r33) (sf na tg (en_ r33 (r32 7)) (dwB r18 r19 r33) 201) b s0 ∧ drQ na tg sh (en_ r33 (r32 7)) (dwB r18 r19 r33) r19 r21 r33 s0 b b r66 := by
  rcases hk with ⟨k1, k2⟩ | ⟨s0, f, k1, k2, k3⟩
  · rcases he with ⟨e1, e2⟩ | ⟨b, e1, e2, e3, -⟩
    · exact Or.inl ⟨e1, k2⟩
    · exfalso
      unfold vd at e3
      rw [k1] at e3
      have : op (mm na tg sh (en_ r33 (r32 7)) (dwB r18 r19 r33) (sf na tg (en_ r33 (r32 7)) (dwB r18 r19 r33) 201) b) none * 60 ^ (10 - b) = 0 := Int.zero_mul _
      omega
  · have hv : ∀ d, vd na tg sh (en_ r33 (r32 7)) (dwB r18 r19 r33) d = mm na tg sh (en_ r33 (r32 7)) (dwB r18 r19 r33) (sf na tg (en_ r33 (r32 7)) (dwB r18 r19 r33) 201) d s0 * 60 ^ (10 - d) := by
      intro d
      unfold vd
      rw [k1]
      rfl
    have hs0 := hst 0 s0 hn k1
    rcases he with ⟨e1, e2⟩ | ⟨b, e1, e2, e3, e4, e5⟩
    · left
      refine ⟨e1, ?_⟩
      have w0 := k2.1
      rcases Int.lt_or_le 0 (q65 1).toInt with z | z
      · obtain ⟨f1, f2, f3⟩ := k2.2.2.2 z
        have := e2 f f1
        rw [hv] at this
        omega
      · omega
    · right
      have hb : wS na tg sh (en_ r33 (r32 7)) (dwB r18 r19 r33) (sf na tg (en_ r33 (r32 7)) (dwB r18 r19 r33) 201) 10 s0 (vd na tg sh (en_ r33 (r32 7)) (dwB r18 r19 r33) b) b := by
        have hbb := vd_b (na := na) (tg := tg) (sh := sh) (en := en_ r33 (r32 7)) (dw := dwB r18 r19 r33) hs hst hn e2
        have h60 : (60 : Int) ^ 10 = 604661760000000000 := by decide
        refine ⟨hbb.1, by omega, fun d hd => ?_, fun _ => ⟨e2, (hv b).symm, fun d hd => ?_⟩⟩
        · rw [← hv]; exact e4 d hd
        · rw [← hv]; exact e5 d hd
      obtain ⟨w1, w2⟩ := wS_one k2 hb
      have w3 : 0 < (q65 1).toInt := by omega
      have w4 := w2 w3
      subst w4
      obtain ⟨k4, k5⟩ := k3 w3
      refine ⟨f, s0, e1, e2, w3, w1, k4, k1, ?_, k5⟩
      have w5 := (mm_b (en := en_ r33 (r32 7)) (dw := dwB r18 r19 r33) hs hst f s0 hs0).1
      rcases Int.lt_or_le 0 (mm na tg sh (en_ r33 (r32 7)) (dwB r18 r19 r33) (sf na tg (en_ r33 (r32 7)) (dwB r18 r19 r33) 201) f s0) with z | z
      · exact z
      · have z2 : mm na tg sh (en_ r33 (r32 7)) (dwB r18 r19 r33) (sf na tg (en_ r33 (r32 7)) (dwB r18 r19 r33) 201) f s0 = 0 := by omega
        rw [hv, z2, Int.zero_mul] at e3
        exact absurd e3 (by decide)
