/-! ===== the likeliest run: the class's table and trace ===== -/
theorem oR_self {n : Nat} {st : Option Nat} {o x : Int32} {i : Nat} (h : oR st o) (hx : x.toInt = (i : Nat)) (hst : ∀ u, st = some u → u < n) : o = x ↔ st = some i := by
  unfold oR at h
  cases hq : st with
  | none =>
    rw [hq] at h
    have h' : o.toInt = -1 := h
    constructor
    · intro z; rw [z, hx] at h'; omega
    · intro z; cases z
  | some u =>
    rw [hq] at h
    have h' : o.toInt = (u : Int) := h
    constructor
    · intro z
      rw [z, hx] at h'
      have : i = u := by omega
      rw [this]
    · intro z
      cases z
      exact i_eq.mpr (by rw [h', hx])
theorem s5_weigh (F : Nat) (hF : 3000 ≤ F) {n : Nat} {fr na : Nat → Nat} {tg : Nat → Nat → Nat} {sh : Nat → Nat → Int} {r18 r19 r32 r33 r37 r38 r39 r67 b69 : Nat → Int32} {b68 : Nat → Int64} (h : lG n fr na tg sh r18 r19 r32 r33 r37 r38 r39) (h67 : ∀ i, i < n → oR (sf na tg (en_ r33 (r32 7)) (dwB r18 r19 r33) 201 i) (r67 i)) {x2 x3 : Int32} {x4 : Int64} {i l : Nat} (hin : i < n) (hl : l ≤ 10) (hx2 : x2.toInt = (i : Nat)) (hx3 : x3.toInt = (l : Nat)) (hx4 : x4.toInt = 60 ^ l) (hprev : ∀ l', l = l' + 1 → ∀ s, s < n → wR na tg sh (en_ r33 (r32 7)) (dwB r18 r19 r33) l' s b69 b68) :
    sp (fnX5_weigh F r32 r33 r37 r38 r39 r67 b69 b68 x2 x3 x4) (fun e => wR na tg sh (en_ r33 (r32 7)) (dwB r18 r19 r33) l i e.1 e.2 ∧ ∀ y, y ≠ 200 * l + i → e.1 y = b69 y ∧ e.2 y = b68 y) := by
  have hshB := lG_shB h
  have hst : ∀ s x, s < n → sf na tg (en_ r33 (r32 7)) (dwB r18 r19 r33) 201 s = some x → x < n := fun s x hs => sf_lt (fun s hs hna => (hshB s hs 0 hna).2.2) 201 s x hs
  have hG := h
  obtain ⟨h1, h2, h3, h4, h5, h6, h7, h8⟩ := h
  have e0 : (0 : Int32).toInt = 0 := rfl
  have e1 : (1 : Int32).toInt = 1 := rfl
  have l0 : (0 : Int64).toInt = 0 := rfl
  obtain ⟨a1, a2, a3, a4⟩ := h6 i hin
  obtain ⟨hc, cc, ibc⟩ := ix200 hx3 hx2 hl (by omega)
  have cx2 : x2.toNatClampNeg = i := by rw [i_cl, hx2]; rfl
  have ib2 : mj_ib x2 200 = true := mj_ib_of (by omega) (by omega)
  have ib3 : mj_ib x2 201 = true := mj_ib_of (by omega) (by omega)
  have hself := oR_self (n := n) (h67 i hin) hx2 (fun u hu => hst i u hin hu)
  have x30 : x3 = 0 ↔ l = 0 := by
    rw [i_eq, hx3, e0]
    omega
  unfold fnX5_weigh
  generalize x3 * 200 + x2 = cell at hc cc ibc ⊢
  rw [g4_isEnd F hx2 (by omega), Option.bind_some]
  by_cases q1 : en_ r33 (r32 7) i = true
  · have hna : na i = 0 := by
      have w1 := (h8 i hin).2
      have w2 : r33 i = r32 7 := of_decide_eq_true q1
      rw [w2] at w1
      omega
    rw [if_pos q1, if_neg (show ¬ (1 : Int32) = 0 from by decide)]
    unfold jnX5_weigh_29
    refine sp_pos ibc (sp_pos ibc (sp_pos ib2 ?_))
    rw [cx2, cc]
    have hres : wR na tg sh (en_ r33 (r32 7)) (dwB r18 r19 r33) l i (upd b69 (200 * l + i) 0) (vp_updL b68 (200 * l + i) x4) ∧ ∀ y, y ≠ 200 * l + i → upd b69 (200 * l + i) 0 y = b69 y ∧ vp_updL b68 (200 * l + i) x4 y = b68 y := by
      refine ⟨fun _ => ⟨0, by rw [upd_at]; rfl, ?_⟩, fun y hy => ⟨upd_ne hy, updL_ne hy⟩⟩
      rw [updL_at, hx4]
      exact wS_en q1 l
    refine sp_pos (hself.mpr (sf_self (Or.inl q1))) (sp_ite (fun _ => sp_some hres) (fun _ => sp_pos ib3 ?_))
    refine sp_bind (sp_it (J := fun s : Int32 × (Nat → Int32) × (Nat → Int64) => s.1 = r37 i ∧ s.2.1 = upd b69 (200 * l + i) 0 ∧ s.2.2 = vp_updL b68 (200 * l + i) x4) (Q := fun e : (Nat → Int32) × (Nat → Int64) => e.1 = upd b69 (200 * l + i) 0 ∧ e.2 = vp_updL b68 (200 * l + i) x4) (fun _ => 0) ?_ F _ ⟨rfl, rfl, rfl⟩ (by omega)) ?_
    · rintro ⟨z, c69, c68⟩ ⟨j1, j2, j3⟩
      refine sp_u2 (sp_u2 ?_)
      dsimp only at j1 j2 j3
      have y1 : (x2 + 1).toInt = ((i + 1 : Nat) : Int) := by rw [i_add (by omega) (by omega), hx2, e1]; omega
      have cy1 : (x2 + 1).toNatClampNeg = i + 1 := by rw [i_cl, y1]; rfl
      unfold bdX5_weigh_61
      refine sp_pos (mj_ib_of (by omega) (by omega)) ?_
      rw [cy1]
      exact sp_pos (i_le.mpr (by rw [j1, a2, a1, hna]; omega)) (sp_some ⟨j2, j3⟩)
    · rintro ⟨c69, c68⟩ ⟨j2, j3⟩
      dsimp only at j2 j3
      subst j2
      subst j3
      exact sp_u2 (sp_some hres)
  · rw [if_neg q1, if_pos rfl]
    unfold jnX5_weigh_29
    refine sp_pos ibc (sp_pos ibc (sp_pos ib2 ?_))
    rw [cx2, cc]
    by_cases q2 : dwB r18 r19 r33 i = true
    · refine sp_pos (hself.mpr (sf_self (Or.inr q2))) (sp_ite (fun q3 => sp_some ?_) (fun q3 => sp_pos ib3 ?_))
      · have hl0 := x30.mp q3
        refine ⟨fun _ => ⟨0, by dsimp only; rw [upd_at]; rfl, ?_⟩, fun y hy => ⟨upd_ne hy, updL_ne hy⟩⟩
        dsimp only
        rw [updL_at, l0, hl0]
        exact wS_0 q1
      · obtain ⟨l', hl'⟩ : ∃ l', l = l' + 1 := ⟨l - 1, by have : l ≠ 0 := fun z => q3 (x30.mpr z); omega⟩
        subst hl'
        have hp : (0 : Int) ≤ 60 ^ (l' + 1) := Int.le_of_lt (pow60_pos (l' + 1))
        refine sp_bind (s5_weighArcs F (by omega) hG h67 (b69 := upd b69 (200 * (l' + 1) + i) 0) (b68 := vp_updL b68 (200 * (l' + 1) + i) 0) (x2 := x2) (x6 := cell) (i := i) (l := l') (by omega) hin (by omega) hx2 hc (fun s hs hst2 => ?_) ?_ (by rw [upd_at]; rfl)) ?_
        · obtain ⟨f, f1, f2⟩ := hprev l' rfl s hs hst2
          refine ⟨f, ?_, ?_⟩
          · rw [upd_ne (by omega)]; exact f1
          · rw [updL_ne (by omega)]; exact f2
        · rw [updL_at, l0]
          exact ⟨Int.le_refl _, hp, fun j hj => absurd hj (Nat.not_lt_zero j), fun z => absurd z (by decide)⟩
        · rintro ⟨c69, c68⟩ ⟨⟨f, f1, f2⟩, f3⟩
          refine sp_u2 (sp_some ⟨fun _ => ⟨f, f1, kS_end q1 q2 f2⟩, fun y hy => ?_⟩)
          obtain ⟨w1, w2⟩ := f3 y hy
          dsimp only at w1 w2 ⊢
          rw [w1, w2]
          exact ⟨upd_ne hy, updL_ne hy⟩
    · refine sp_neg (fun z => ?_) (sp_some ⟨fun z => ?_, fun y hy => ⟨upd_ne hy, updL_ne hy⟩⟩)
      · rcases sf_is 201 _ _ (hself.mp z) with w | w
        · exact q1 w
        · exact q2 w
      · rcases z with w | w
        · exact absurd w q1
        · exact absurd w q2
theorem s5_level (F : Nat) (hF : 3000 ≤ F) {n : Nat} {fr na : Nat → Nat} {tg : Nat → Nat → Nat} {sh : Nat → Nat → Int} {r18 r19 r32 r33 r37 r38 r39 r67 b69 : Nat → Int32} {b68 : Nat → Int64} (h : lG n fr na tg sh r18 r19 r32 r33 r37 r38 r39) (h67 : ∀ i, i < n → oR (sf na tg (en_ r33 (r32 7)) (dwB r18 r19 r33) 201 i) (r67 i)) {x5 : Int32} {x3 : Int64} {l : Nat} (hl : l ≤ 10) (hx5 : x5.toInt = (l : Nat)) (hx3 : x3.toInt = 60 ^ l) (hprev : ∀ l', l' < l → ∀ s, s < n → wR na tg sh (en_ r33 (r32 7)) (dwB r18 r19 r33) l' s b69 b68) :
    sp (mj_it (mj_u2 (fun z0 => (mj_u2 (fun z1 z2 => bdX5_find_73 F r32 r33 r37 r38 r39 r67 x3 x5 z0 z1 z2)))) F ((0 : Int32), b69, b68)) (fun e => ∀ l', l' < l + 1 → ∀ s, s < n → wR na tg sh (en_ r33 (r32 7)) (dwB r18 r19 r33) l' s e.1 e.2) := by
  have e0 : (0 : Int32).toInt = 0 := rfl
  obtain ⟨h1, h2, h3, -⟩ := id h
  refine sp_cnt (fun s : Int32 × (Nat → Int32) × (Nat → Int64) => s.1) n (by omega) (fun i s => (∀ l', l' < l → ∀ t, t < n → wR na tg sh (en_ r33 (r32 7)) (dwB r18 r19 r33) l' t s.2.1 s.2.2) ∧ ∀ t, t < i → wR na tg sh (en_ r33 (r32 7)) (dwB r18 r19 r33) l t s.2.1 s.2.2) ?_ F 0 _ (by omega) e0 ⟨hprev, fun t ht => absurd ht (Nat.not_lt_zero t)⟩ (by omega)
  rintro i ⟨x, a69, a68⟩ hi hx hcx hx1 ⟨j1, j2⟩
  refine sp_u2 (sp_u2 ?_)
  dsimp only at hx hcx hx1 j1 j2
  unfold bdX5_find_73
  refine sp_ite (fun hw => sp_some ?_) (fun hw => ?_)
  · have := i_le.mp hw
    have : i = n := by omega
    subst this
    intro l' hl' s hs
    by_cases e : l' = l
    · rw [e]; exact j2 s hs
    · exact j1 l' (by omega) s hs
  · have hw2 : ¬ (r32 2).toInt ≤ x.toInt := fun q => hw (i_le.mpr q)
    have hin : i < n := by omega
    refine sp_bind (s5_weigh F hF h h67 hin hl hx hx5 hx3 (fun l' hl' s hs => j1 l' (by omega) s hs)) ?_
    rintro ⟨c69, c68⟩ ⟨w1, w2⟩
    dsimp only at w1 w2
    refine sp_some ⟨hin, rfl, fun l' hl' t ht => ?_, fun t ht => ?_⟩
    · intro hz
      obtain ⟨f, f1, f2⟩ := j1 l' hl' t ht hz
      obtain ⟨v1, v2⟩ := w2 (200 * l' + t) (by omega)
      refine ⟨f, ?_, ?_⟩
      · dsimp only; rw [v1]; exact f1
      · dsimp only; rw [v2]; exact f2
    · by_cases e : t = i
      · rw [e]; exact w1
      · intro hz
        obtain ⟨f, f1, f2⟩ := j2 t (by omega) hz
        obtain ⟨v1, v2⟩ := w2 (200 * l + t) (by omega)
        refine ⟨f, ?_, ?_⟩
        · dsimp only; rw [v1]; exact f1
        · dsimp only; rw [v2]; exact f2
theorem l_60 {a : Int64} {l : Nat} (h : a.toInt = 60 ^ l) (hl : l + 1 ≤ 10) : (a * 60).toInt = 60 ^ (l + 1) := by
  have e : (60 : Int64).toInt = 60 := rfl
  have p := pow60_10 (l + 1) hl
  have p2 := pow60_pos (l + 1)
  rw [Int.pow_succ] at p p2
  rw [l_mul (by rw [e, h]; omega) (by rw [e, h]; omega), e, h, Int.pow_succ]
theorem s5_table (F : Nat) (hF : 3000 ≤ F) {n : Nat} {fr na : Nat → Nat} {tg : Nat → Nat → Nat} {sh : Nat → Nat → Int} {r18 r19 r32 r33 r37 r38 r39 r67 b69 : Nat → Int32} {b68 : Nat → Int64} (h : lG n fr na tg sh r18 r19 r32 r33 r37 r38 r39) (h67 : ∀ i, i < n → oR (sf na tg (en_ r33 (r32 7)) (dwB r18 r19 r33) 201 i) (r67 i)) :
    sp (mj_it (mj_u2 (fun z0 => (mj_u2 (fun z1 => (mj_u2 (fun z2 z3 => bdX5_find_63 F r32 r33 r37 r38 r39 r67 z0 z1 z2 z3)))))) F ((1 : Int64), (0 : Int32), b69, b68)) (fun e => ∀ l', l' ≤ 10 → ∀ s, s < n → wR na tg sh (en_ r33 (r32 7)) (dwB r18 r19 r33) l' s e.1 e.2) := by
  have e0 : (0 : Int32).toInt = 0 := rfl
  have e10 : (10 : Int32).toInt = 10 := rfl
  refine sp_cnt (fun s : Int64 × Int32 × (Nat → Int32) × (Nat → Int64) => s.2.1) 11 (by omega) (fun l s => (l ≤ 10 → s.1.toInt = 60 ^ l) ∧ ∀ l', l' < l → ∀ t, t < n → wR na tg sh (en_ r33 (r32 7)) (dwB r18 r19 r33) l' t s.2.2.1 s.2.2.2) ?_ F 0 _ (by omega) e0 ⟨fun _ => rfl, fun l' hl' => absurd hl' (Nat.not_lt_zero l')⟩ (by omega)
  rintro l ⟨u, x, a69, a68⟩ hi hx hcx hx1 ⟨j1, j2⟩
  refine sp_u2 (sp_u2 (sp_u2 ?_))
  dsimp only at hx hcx hx1 j1 j2
  unfold bdX5_find_63
  refine sp_ite (fun hw => sp_some ?_) (fun hw => ?_)
  · have := i_lt.mp hw
    intro l' hl' s hs
    exact j2 l' (by omega) s hs
  · have hw2 : ¬ (10 : Int32).toInt < x.toInt := fun q => hw (i_lt.mpr q)
    have hl : l ≤ 10 := by omega
    refine sp_bind (s5_level F hF h h67 hl hx (j1 hl) j2) ?_
    rintro ⟨c69, c68⟩ hc
    refine sp_u2 (sp_some ⟨by omega, rfl, fun hl1 => ?_, hc⟩)
    exact l_60 (j1 hl) hl1
/-- the arc chosen at s with d draws behind it -/
def isPk (na : Nat → Nat) (tg : Nat → Nat → Nat) (sh : Nat → Nat → Int) (en dw : Nat → Bool) (st : Nat → Option Nat) (s d a : Nat) : Prop := a < na s ∧ vl na tg sh en dw st s a d = mm na tg sh en dw st (d + 1) s ∧ ∀ j, j < a → ¬ vl na tg sh en dw st s j d = mm na tg sh en dw st (d + 1) s
theorem isPk_one {na : Nat → Nat} {tg : Nat → Nat → Nat} {sh : Nat → Nat → Int} {en dw : Nat → Bool} {st : Nat → Option Nat} {s d a b : Nat} (h : isPk na tg sh en dw st s d a) (h' : isPk na tg sh en dw st s d b) : a = b := by
  rcases Nat.lt_trichotomy a b with z | z | z
  · exact absurd h.2.1 (h'.2.2 a z)
  · exact z
  · exact absurd h'.2.1 (h.2.2 b z)
/-- the j-th draw from s with d draws to come: at s', by the arc a -/
def pth (na : Nat → Nat) (tg : Nat → Nat → Nat) (sh : Nat → Nat → Int) (en dw : Nat → Bool) (st : Nat → Option Nat) : Nat → Nat → Nat → Nat → Nat → Prop
  | 0, d, s, s', a => s' = s ∧ ∃ d', d = d' + 1 ∧ isPk na tg sh en dw st s d' a
  | j + 1, d, s, s', a => ∃ d' b u, d = d' + 1 ∧ isPk na tg sh en dw st s d' b ∧ st (tg s b) = some u ∧ pth na tg sh en dw st j d' u s' a
theorem pth_one {na : Nat → Nat} {tg : Nat → Nat → Nat} {sh : Nat → Nat → Int} {en dw : Nat → Bool} {st : Nat → Option Nat} : ∀ j d s s1 a1 s2 a2, pth na tg sh en dw st j d s s1 a1 → pth na tg sh en dw st j d s s2 a2 → s1 = s2 ∧ a1 = a2 := by
  intro j
  induction j with
  | zero =>
    rintro d s s1 a1 s2 a2 ⟨e1, d1, f1, p1⟩ ⟨e2, d2, f2, p2⟩
    have : d1 = d2 := by omega
    subst this
    exact ⟨by rw [e1, e2], isPk_one p1 p2⟩
  | succ j ih =>
    rintro d s s1 a1 s2 a2 ⟨d1, b1, u1, f1, p1, g1, q1⟩ ⟨d2, b2, u2, f2, p2, g2, q2⟩
    have : d1 = d2 := by omega
    subst this
    have := isPk_one p1 p2
    subst this
    rw [g1] at g2
    cases g2
    exact ih d1 u1 s1 a1 s2 a2 q1 q2
/-- what the j-th draw is told as -/
def dvR (r19 r21 r33 : Nat → Int32) (s a : Nat) (o : Int32) : Prop := o.toInt = if r19 (r33 s).toInt.toNat = 1 then (a : Int) else if a = 0 ∧ ¬ (r21 (r33 s).toInt.toNat).toInt ≤ 0 then 1 else 0
theorem isPk_ex {na : Nat → Nat} {tg : Nat → Nat → Nat} {sh : Nat → Nat → Int} {en dw : Nat → Bool} {st : Nat → Option Nat} {s d : Nat} (he : ¬ en s = true) (hd : dw s = true) (hp : 0 < mm na tg sh en dw st (d + 1) s) : ∃ a, isPk na tg sh en dw st s d a := by
  have h1 : ∃ k, k < na s ∧ vl na tg sh en dw st s k d = mm na tg sh en dw st (d + 1) s := by
    rw [mm_dw he hd] at hp ⊢
    rcases mk_at (f := fun k => vl na tg sh en dw st s k d) (na s) with e | ⟨k, k1, k2⟩
    · omega
    · exact ⟨k, k1, k2.symm⟩
  obtain ⟨k, k1, k2⟩ := h1
  have : ∀ m, (∃ a, a < m ∧ a < na s ∧ vl na tg sh en dw st s a d = mm na tg sh en dw st (d + 1) s ∧ ∀ j, j < a → ¬ vl na tg sh en dw st s j d = mm na tg sh en dw st (d + 1) s) ∨ ∀ j, j < m → ¬ vl na tg sh en dw st s j d = mm na tg sh en dw st (d + 1) s := by
    intro m
    induction m with
    | zero => exact Or.inr (fun j hj => absurd hj (Nat.not_lt_zero j))
    | succ m ih =>
      rcases ih with ⟨a, a1, a2⟩ | ih
      · exact Or.inl ⟨a, by omega, a2⟩
      · by_cases e : m < na s ∧ vl na tg sh en dw st s m d = mm na tg sh en dw st (d + 1) s
        · exact Or.inl ⟨m, by omega, e.1, e.2, ih⟩
        · by_cases e2 : vl na tg sh en dw st s m d = mm na tg sh en dw st (d + 1) s
          · by_cases e3 : k < m
            · exact absurd k2 (ih k e3)
            · exact absurd ⟨by omega, e2⟩ e
          · refine Or.inr (fun j hj => ?_)
            by_cases e3 : j = m
            · rw [e3]; exact e2
            · exact ih j (by omega)
  rcases this (na s) with ⟨a, a1, a2, a3, a4⟩ | h
  · exact ⟨a, a2, a3, a4⟩
  · exact absurd k2 (h k k1)
