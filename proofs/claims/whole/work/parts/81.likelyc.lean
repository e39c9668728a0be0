/-! ===== the likeliest run: the class ===== -/
def dwB (r18 r19 r33 : Nat → Int32) (t : Nat) : Bool := decide ((r33 t).toInt < (r18 0).toInt) && (decide (r19 (r33 t).toInt.toNat = 1) || decide (r19 (r33 t).toInt.toNat = 2))
theorem dwB_t {r18 r19 r33 : Nat → Int32} {t : Nat} : dwB r18 r19 r33 t = true ↔ (r33 t).toInt < (r18 0).toInt ∧ (r19 (r33 t).toInt.toNat = 1 ∨ r19 (r33 t).toInt.toNat = 2) := by simp [dwB]
theorem g5_isDrawn (F : Nat) {r18 r19 r33 : Nat → Int32} (h18 : 0 ≤ (r18 0).toInt ∧ (r18 0).toInt ≤ 40) {x : Int32} {s : Nat} (hx : x.toInt = (s : Nat)) (hs : s < 200) (h33 : 0 ≤ (r33 s).toInt) : fnX5_isDrawn F r18 r19 r33 x = some (if dwB r18 r19 r33 s then 1 else 0) := by
  have hcx : x.toNatClampNeg = s := by rw [i_cl, hx]; rfl
  have hib : mj_ib x 200 = true := mj_ib_of (by omega) (by omega)
  unfold fnX5_isDrawn
  rw [if_pos hib, hcx]
  by_cases e : r18 0 ≤ r33 s
  · have e2 := i_le.mp e
    rw [if_pos e, if_neg (fun z => by have := (dwB_t.mp z).1; omega)]
  · have e2 : ¬ (r18 0).toInt ≤ (r33 s).toInt := fun z => e (i_le.mpr z)
    have hib2 : mj_ib (r33 s) 40 = true := mj_ib_of h33 (by omega)
    rw [if_neg e, if_pos hib2, i_cl, if_pos hib2]
    by_cases e3 : r19 (r33 s).toInt.toNat = 1
    · rw [if_pos e3, if_pos (dwB_t.mpr ⟨by omega, Or.inl e3⟩)]
    · rw [if_neg e3]
      by_cases e4 : r19 (r33 s).toInt.toNat = 2
      · rw [if_pos e4, if_pos (dwB_t.mpr ⟨by omega, Or.inr e4⟩)]
      · rw [if_neg e4, if_neg (fun z => by rcases (dwB_t.mp z).2 with w | w; exact e3 w; exact e4 w)]
theorem g4_isEnd (F : Nat) {r32 r33 : Nat → Int32} {x : Int32} {s : Nat} (hx : x.toInt = (s : Nat)) (hs : s < 200) : fnX4_isEnd F r32 r33 x = some (if en_ r33 (r32 7) s then 1 else 0) := by
  have hcx : x.toNatClampNeg = s := by rw [i_cl, hx]; rfl
  have hib : mj_ib x 200 = true := mj_ib_of (by omega) (by omega)
  unfold fnX4_isEnd
  rw [if_pos hib, hcx]
  by_cases e : r33 s = r32 7
  · rw [if_pos e, if_pos (show en_ r33 (r32 7) s = true from decide_eq_true e)]
  · rw [if_neg e, if_neg (show ¬ en_ r33 (r32 7) s = true from fun z => e (of_decide_eq_true z))]
/-- an optional state as a number -/
def oR (st : Option Nat) (o : Int32) : Prop := o.toInt = (match st with
  | none => -1
  | some u => (u : Int))
/-- what the two have of the graph, for runs -/
def lG (n : Nat) (fr na : Nat → Nat) (tg : Nat → Nat → Nat) (sh : Nat → Nat → Int) (r18 r19 r32 r33 r37 r38 r39 : Nat → Int32) : Prop := n ≤ 200 ∧ 0 < n ∧ (r32 2).toInt = (n : Nat) ∧ (0 ≤ (r18 0).toInt ∧ (r18 0).toInt ≤ 40) ∧ (r32 7).toInt = (r18 0).toInt ∧ cA n fr na tg r37 r38 ∧ (∀ s, s < n → ∀ k, k < na s → (r39 (fr s + k)).toInt = sh s k ∧ 1 ≤ sh s k ∧ sh s k ≤ 60) ∧ (∀ s, s < n → 0 ≤ (r33 s).toInt ∧ ((r33 s).toInt < (r18 0).toInt ↔ 0 < na s))
theorem lG_shB {n : Nat} {fr na : Nat → Nat} {tg : Nat → Nat → Nat} {sh : Nat → Nat → Int} {r18 r19 r32 r33 r37 r38 r39 : Nat → Int32} (h : lG n fr na tg sh r18 r19 r32 r33 r37 r38 r39) : shB n na tg sh := by
  obtain ⟨h1, h2, h3, h4, h5, h6, h7, h8⟩ := h
  intro s hs k hk
  exact ⟨(h7 s hs k hk).2.1, (h7 s hs k hk).2.2, ((h6 s hs).2.2.2 k hk).2⟩
theorem s5_stopFrom (F : Nat) (hF : 600 ≤ F) {n : Nat} {fr na : Nat → Nat} {tg : Nat → Nat → Nat} {sh : Nat → Nat → Int} {r18 r19 r32 r33 r37 r38 r39 : Nat → Int32} (h : lG n fr na tg sh r18 r19 r32 r33 r37 r38 r39) {x : Int32} {i : Nat} (hx : x.toInt = (i : Nat)) (hi : i < n) :
    sp (fnX5_stopFrom F r18 r19 r32 r33 r37 r38 x) (fun o => oR (sf na tg (en_ r33 (r32 7)) (dwB r18 r19 r33) 201 i) o) := by
  obtain ⟨h1, h2, h3, h4, h5, h6, h7, h8⟩ := h
  have e0 : (0 : Int32).toInt = 0 := rfl
  have e200 : (200 : Int32).toInt = 200 := rfl
  unfold fnX5_stopFrom
  refine sp_bind (sp_cnt (fun s : Int32 × Int32 => s.2) 201 (by omega) (fun k s => ∃ a, a < n ∧ s.1.toInt = (a : Nat) ∧ sf na tg (en_ r33 (r32 7)) (dwB r18 r19 r33) 201 i = sf na tg (en_ r33 (r32 7)) (dwB r18 r19 r33) (201 - k) a) (Q := fun e : Unit ⊕ (Int32 ⊕ Unit) => Sum.elim (fun _ => sf na tg (en_ r33 (r32 7)) (dwB r18 r19 r33) 201 i = none) (Sum.elim (fun y : Int32 => ∃ u : Nat, y.toInt = ((u : Nat) : Int) ∧ sf na tg (en_ r33 (r32 7)) (dwB r18 r19 r33) 201 i = some u) (fun _ => sf na tg (en_ r33 (r32 7)) (dwB r18 r19 r33) 201 i = none)) e) ?_ F 0 _ (by omega) e0 ⟨i, hi, hx, rfl⟩ (by omega)) ?_
  · rintro k ⟨y, z⟩ hk hz hcz hz1 ⟨a, a1, a2, a3⟩
    refine sp_u2 ?_
    dsimp only at hz hcz hz1 a2
    unfold bdX5_stopFrom_5
    refine sp_ite (fun hw => sp_some ?_) (fun hw => ?_)
    · have := i_lt.mp hw
      have : k = 201 := by omega
      subst this
      exact a3
    · have hw2 : ¬ (200 : Int32).toInt < z.toInt := fun q => hw (i_lt.mpr q)
      have hsf := sf_s na tg (en_ r33 (r32 7)) (dwB r18 r19 r33) (200 - k) a
      rw [show 200 - k + 1 = 201 - k by omega] at hsf
      rw [hsf] at a3
      rw [g4_isEnd F a2 (by omega), Option.bind_some]
      by_cases q1 : en_ r33 (r32 7) a = true
      · rw [if_pos q1, if_neg (show ¬ (1 : Int32) = 0 from by decide)]
        rw [if_pos (by rw [q1]; rfl)] at a3
        exact sp_some ⟨a, a2, a3⟩
      · rw [if_neg q1, if_pos rfl, g5_isDrawn F h4 a2 (by omega) (h8 a a1).1, Option.bind_some]
        by_cases q2 : dwB r18 r19 r33 a = true
        · rw [if_pos q2, if_neg (show ¬ (1 : Int32) = 0 from by decide)]
          rw [if_pos (by rw [q2]; simp)] at a3
          exact sp_some ⟨a, a2, a3⟩
        · rw [if_neg q2, if_pos rfl]
          rw [if_neg (by simp [q1, q2])] at a3
          obtain ⟨c1, c2, c3, c4⟩ := h6 a a1
          refine sp_bind (q_arcsOf F h6 h1 a2 a1) (fun o ho => ?_)
          refine sp_ite (fun q3 => sp_some ?_) (fun q3 => ?_)
          · rw [if_pos (by rw [q3] at ho; omega)] at a3
            exact a3
          · have hna : 0 < na a := by
              rcases Nat.eq_zero_or_pos (na a) with w | w
              · exact absurd (i_eq.mpr (by rw [ho, w]; rfl)) q3
              · exact w
            rw [if_neg (by omega)] at a3
            have cy : y.toNatClampNeg = a := by rw [i_cl, a2]; rfl
            have cf : (r37 a).toNatClampNeg = fr a := by rw [i_cl, c1]; rfl
            obtain ⟨t1, t2⟩ := c4 0 hna
            refine sp_pos (mj_ib_of (by omega) (by omega)) ?_
            rw [cy]
            refine sp_pos (mj_ib_of (by omega) (by omega)) (sp_some ⟨by omega, rfl, tg a 0, t2, ?_, ?_⟩)
            · dsimp only; rw [cf]; exact t1
            · rw [show 201 - (k + 1) = 200 - k by omega]; exact a3
  · rintro (e | (e | e)) he
    · refine sp_some ?_
      unfold oR
      rw [show sf na tg (en_ r33 (r32 7)) (dwB r18 r19 r33) 201 i = none from he]
      rfl
    · obtain ⟨u, u1, u2⟩ := he
      refine sp_some ?_
      unfold oR
      rw [u2]
      exact u1
    · refine sp_some ?_
      unfold oR
      rw [show sf na tg (en_ r33 (r32 7)) (dwB r18 r19 r33) 201 i = none from he]
      rfl
theorem s5_stops (F : Nat) (hF : 600 ≤ F) {n : Nat} {fr na : Nat → Nat} {tg : Nat → Nat → Nat} {sh : Nat → Nat → Int} {r18 r19 r32 r33 r37 r38 r39 r67 : Nat → Int32} (h : lG n fr na tg sh r18 r19 r32 r33 r37 r38 r39) :
    sp (mj_it (mj_u2 (fun z0 z1 => bdX5_find_32 F r18 r19 r32 r33 r37 r38 z0 z1)) F ((0 : Int32), r67)) (fun e => ∀ i, i < n → oR (sf na tg (en_ r33 (r32 7)) (dwB r18 r19 r33) 201 i) (e i)) := by
  have e0 : (0 : Int32).toInt = 0 := rfl
  obtain ⟨h1, h2, h3, -⟩ := id h
  refine sp_cnt (fun s : Int32 × (Nat → Int32) => s.1) n (by omega) (fun k s => ∀ i, i < k → oR (sf na tg (en_ r33 (r32 7)) (dwB r18 r19 r33) 201 i) (s.2 i)) ?_ F 0 _ (by omega) e0 (fun i hi => absurd hi (Nat.not_lt_zero i)) (by omega)
  rintro k ⟨x, a67⟩ hk hx hcx hx1 hJ
  refine sp_u2 ?_
  dsimp only at hx hcx hx1 hJ
  unfold bdX5_find_32
  refine sp_ite (fun hw => sp_some ?_) (fun hw => ?_)
  · have := i_le.mp hw
    have : k = n := by omega
    subst this
    exact hJ
  · have hw2 : ¬ (r32 2).toInt ≤ x.toInt := fun q => hw (i_le.mpr q)
    have hkn : k < n := by omega
    refine sp_bind (s5_stopFrom F hF h hx hkn) (fun o ho => sp_pos (mj_ib_of (by omega) (by omega)) (sp_some ⟨hkn, rfl, fun i hi => ?_⟩))
    dsimp only
    rw [hcx]
    by_cases e : i = k
    · rw [e, upd_at]; exact ho
    · rw [upd_ne e]; exact hJ i (by omega)
theorem ix200 {x y : Int32} {l i : Nat} (hx : x.toInt = (l : Nat)) (hy : y.toInt = (i : Nat)) (hl : l ≤ 10) (hi : i < 200) : (x * 200 + y).toInt = ((200 * l + i : Nat) : Int) ∧ (x * 200 + y).toNatClampNeg = 200 * l + i ∧ mj_ib (x * 200 + y) 2200 = true := by
  have e200 : (200 : Int32).toInt = 200 := rfl
  have mc : (x * 200).toInt = ((200 * l : Nat) : Int) := by rw [i_mul (by rw [e200, hx]; omega) (by rw [e200, hx]; omega), e200, hx]; omega
  have dc : (x * 200 + y).toInt = ((200 * l + i : Nat) : Int) := by rw [i_add (by rw [mc, hy]; omega) (by rw [mc, hy]; omega), mc, hy]; omega
  exact ⟨dc, by rw [i_cl, dc]; rfl, mj_ib_of (by rw [dc]; omega) (by rw [dc]; omega)⟩
theorem ixB {c x z : Int32} {l i u : Nat} (hc : c.toInt = ((200 * (l + 1) + i : Nat) : Int)) (hx : x.toInt = (i : Nat)) (hz : z.toInt = (u : Nat)) (hl : l ≤ 9) (hi : i < 200) (hu : u < 200) : (c - 200 - x + z).toNatClampNeg = 200 * l + u ∧ mj_ib (c - 200 - x + z) 2200 = true := by
  have e200 : (200 : Int32).toInt = 200 := rfl
  have m1 : (c - 200).toInt = ((200 * l + i : Nat) : Int) := by rw [i_sub (by rw [e200, hc]; omega) (by rw [e200, hc]; omega), e200, hc]; omega
  have m2 : (c - 200 - x).toInt = ((200 * l : Nat) : Int) := by rw [i_sub (by rw [m1, hx]; omega) (by rw [m1, hx]; omega), m1, hx]; omega
  have m3 : (c - 200 - x + z).toInt = ((200 * l + u : Nat) : Int) := by rw [i_add (by rw [m2, hz]; omega) (by rw [m2, hz]; omega), m2, hz]; omega
  exact ⟨by rw [i_cl, m3]; rfl, mj_ib_of (by rw [m3]; omega) (by rw [m3]; omega)⟩
theorem pow60_10 : ∀ d, d ≤ 10 → (60 : Int) ^ d ≤ 604661760000000000 := by decide
theorem l_sh {a : Int32} {b : Int64} {u v : Int} (ha : a.toInt = u) (hb : b.toInt = v) (hu : 1 ≤ u ∧ u ≤ 60) (hv : 0 ≤ v ∧ v ≤ 604661760000000000) (hm : 0 ≤ u * v ∧ u * v ≤ 604661760000000000) : (a.toInt64 * b).toInt = u * v := by
  rw [l_mul (by rw [i_l, ha, hb]; omega) (by rw [i_l, ha, hb]; omega), i_l, ha, hb]
/-- the class's table at level l, state s -/
def wR (na : Nat → Nat) (tg : Nat → Nat → Nat) (sh : Nat → Nat → Int) (en dw : Nat → Bool) (l s : Nat) (r69 : Nat → Int32) (q68 : Nat → Int64) : Prop := (en s = true ∨ dw s = true) → ∃ f : Nat, (r69 (200 * l + s)).toInt = (f : Nat) ∧ wS na tg sh en dw (sf na tg en dw 201) l s (q68 (200 * l + s)).toInt f
theorem s5_weighArcs (F : Nat) (hF : 600 ≤ F) {n : Nat} {fr na : Nat → Nat} {tg : Nat → Nat → Nat} {sh : Nat → Nat → Int} {r18 r19 r32 r33 r37 r38 r39 r67 b69 : Nat → Int32} {b68 : Nat → Int64} (h : lG n fr na tg sh r18 r19 r32 r33 r37 r38 r39) (h67 : ∀ i, i < n → oR (sf na tg (en_ r33 (r32 7)) (dwB r18 r19 r33) 201 i) (r67 i)) {x2 x6 : Int32} {i l : Nat} (hF2 : fr i + na i < F + fr i) (hin : i < n) (hl : l ≤ 9) (hx2 : x2.toInt = (i : Nat)) (hx6 : x6.toInt = ((200 * (l + 1) + i : Nat) : Int)) (hprev : ∀ s, s < n → wR na tg sh (en_ r33 (r32 7)) (dwB r18 r19 r33) l s b69 b68) (h0 : kS na tg sh (en_ r33 (r32 7)) (dwB r18 r19 r33) (sf na tg (en_ r33 (r32 7)) (dwB r18 r19 r33) 201) l i 0 (b68 (200 * (l + 1) + i)).toInt 0) (h0f : (b69 (200 * (l + 1) + i)).toInt = 0) :
    sp (mj_it (mj_u2 (fun z0 => (mj_u2 (fun z1 z2 => bdX5_weigh_61 F r37 r38 r39 r67 x2 x6 z0 z1 z2)))) F (r37 i, b69, b68)) (fun e => (∃ f : Nat, (e.1 (200 * (l + 1) + i)).toInt = (f : Nat) ∧ kS na tg sh (en_ r33 (r32 7)) (dwB r18 r19 r33) (sf na tg (en_ r33 (r32 7)) (dwB r18 r19 r33) 201) l i (na i) (e.2 (200 * (l + 1) + i)).toInt f) ∧ ∀ y, y ≠ 200 * (l + 1) + i → e.1 y = b69 y ∧ e.2 y = b68 y) := by
  have hshB := lG_shB h
  have hst : ∀ s x, s < n → sf na tg (en_ r33 (r32 7)) (dwB r18 r19 r33) 201 s = some x → x < n := fun s x hs => sf_lt (fun s hs hna => (hshB s hs 0 hna).2.2) 201 s x hs
  obtain ⟨h1, h2, h3, h4, h5, h6, h7, h8⟩ := h
  have e1 : (1 : Int32).toInt = 1 := rfl
  have l0 : (0 : Int64).toInt = 0 := rfl
  obtain ⟨a1, a2, a3, a4⟩ := h6 i hin
  have y1 : (x2 + 1).toInt = ((i + 1 : Nat) : Int) := by rw [i_add (by omega) (by omega), hx2, e1]; omega
  have cy1 : (x2 + 1).toNatClampNeg = i + 1 := by rw [i_cl, y1]; rfl
  have c6 : x6.toNatClampNeg = 200 * (l + 1) + i := by rw [i_cl, hx6]; rfl
  have ib6 : mj_ib x6 2200 = true := mj_ib_of (by omega) (by omega)
  have p9 := pow60_10 l (by omega)
  have p10 := pow60_10 (l + 1) (by omega)
  generalize hcell : 200 * (l + 1) + i = cell at *
  refine sp_cnt (fun s : Int32 × (Nat → Int32) × (Nat → Int64) => s.1) (fr i + na i) (by omega) (fun j s => ∃ k, j = fr i + k ∧ (∃ f : Nat, (s.2.1 cell).toInt = (f : Nat) ∧ kS na tg sh (en_ r33 (r32 7)) (dwB r18 r19 r33) (sf na tg (en_ r33 (r32 7)) (dwB r18 r19 r33) 201) l i k (s.2.2 cell).toInt f) ∧ ∀ y, y ≠ cell → s.2.1 y = b69 y ∧ s.2.2 y = b68 y) ?_ F (fr i) _ (by omega) a1 ⟨0, rfl, ⟨0, h0f, h0⟩, fun _ _ => ⟨rfl, rfl⟩⟩ (by omega)
  rintro j ⟨z, a69, a68⟩ hj hz hcz hz1 ⟨k, rfl, ⟨f, hf, hk⟩, hfr⟩
  refine sp_u2 (sp_u2 ?_)
  dsimp only at hz hcz hz1 hf hk hfr
  unfold bdX5_weigh_61
  refine sp_pos (mj_ib_of (by omega) (by omega)) ?_
  rw [cy1]
  refine sp_ite (fun hy => sp_some ?_) (fun hy => ?_)
  · have := i_le.mp hy
    have : k = na i := by omega
    subst this
    exact ⟨⟨f, hf, hk⟩, hfr⟩
  · have hy2 : ¬ (r37 (i + 1)).toInt ≤ z.toInt := fun w => hy (i_le.mpr w)
    have hkn : k < na i := by omega
    obtain ⟨t1, t2⟩ := a4 k hkn
    obtain ⟨s1, s2⟩ := h7 i hin k hkn
    have hib : mj_ib z 2000 = true := mj_ib_of (by omega) (by omega)
    have ct : (r38 (fr i + k)).toNatClampNeg = tg i k := by rw [i_cl, t1]; rfl
    have hk1 : fr i + k < fr i + na i := by omega
    refine sp_pos hib ?_
    rw [hcz]
    refine sp_pos (mj_ib_of (by omega) (by omega)) ?_
    rw [ct, c6]
    have hot := h67 (tg i k) t2
    cases hq : sf na tg (en_ r33 (r32 7)) (dwB r18 r19 r33) 201 (tg i k) with
    | none =>
      rw [hq] at hot
      refine sp_pos (i_eq.mpr hot) (sp_some ⟨hk1, rfl, k + 1, rfl, ⟨f, hf, kS_none hk hq⟩, hfr⟩)
    | some u =>
      rw [hq] at hot
      have hot' : (r67 (tg i k)).toInt = (u : Nat) := hot
      have hun := hst _ _ t2 hq
      obtain ⟨f', g1, g2⟩ := hprev u hun (sf_is 201 _ _ hq)
      have hcu : 200 * l + u ≠ cell := by omega
      have hul : u < 200 := by omega
      have hi2 : i < 200 := by omega
      have hl' : f' ≤ 1000 ∨ ¬ 0 < (b68 (200 * l + u)).toInt := by
        by_cases w : 0 < (b68 (200 * l + u)).toInt
        · left
          have := (g2.2.2.2 w).1
          omega
        · exact Or.inr w
      have hneg : ¬ r67 (tg i k) = -1 := fun w => by
        have w1 : (r67 (tg i k)).toInt = -1 := by rw [w]; rfl
        clear w
        omega
      refine sp_neg hneg (sp_pos hib ?_)
      clear hneg
      rw [← hcell] at hx6
      obtain ⟨cb, ibb⟩ := ixB hx6 hx2 hot' hl hi2 hul
      rw [hcell] at hx6
      refine sp_pos ibb (sp_pos ibb (sp_pos ib6 ?_))
      rw [cb]
      clear cb
      have fb := hfr (200 * l + u) hcu
      rw [fb.1, fb.2]
      have hw0 := g2.1
      have hw1 := g2.2.1
      have hm0 : 0 ≤ sh i k * (b68 (200 * l + u)).toInt := Int.mul_nonneg (by omega) hw0
      have hm1 : sh i k * (b68 (200 * l + u)).toInt ≤ 604661760000000000 := by
        have b1 : sh i k * (b68 (200 * l + u)).toInt ≤ 60 * (b68 (200 * l + u)).toInt := Int.mul_le_mul_of_nonneg_right s2.2 hw0
        have b2 : (60 : Int) ^ (l + 1) = 60 ^ l * 60 := Int.pow_succ _ _
        omega
      have hmul := l_sh s1 (b := b68 (200 * l + u)) rfl s2 ⟨hw0, by omega⟩ ⟨hm0, hm1⟩
      generalize (r39 (fr i + k)).toInt64 * b68 (200 * l + u) = pr_ at hmul ⊢
      have hnext : (b69 (200 * l + u) + 1).toInt = ((f' + 1 : Nat) : Int) ∨ ¬ 0 < (b68 (200 * l + u)).toInt := by
        rcases hl' with w | w
        · left
          rw [i_add (by omega) (by omega), g1, e1]; omega
        · exact Or.inr w
      have take : (a68 cell).toInt < sh i k * (b68 (200 * l + u)).toInt ∨ (0 < sh i k * (b68 (200 * l + u)).toInt ∧ sh i k * (b68 (200 * l + u)).toInt = (a68 cell).toInt ∧ f' + 1 < f) → ∃ k', fr i + k + 1 = fr i + k' ∧ (∃ f : Nat, (upd a69 cell (b69 (200 * l + u) + 1) cell).toInt = (f : Nat) ∧ kS na tg sh (en_ r33 (r32 7)) (dwB r18 r19 r33) (sf na tg (en_ r33 (r32 7)) (dwB r18 r19 r33) 201) l i k' (vp_updL a68 cell pr_ cell).toInt f) ∧ ∀ y, y ≠ cell → upd a69 cell (b69 (200 * l + u) + 1) y = b69 y ∧ vp_updL a68 cell pr_ y = b68 y := by
        intro hc
        refine ⟨k + 1, rfl, ⟨f' + 1, ?_, ?_⟩, fun y hy => ?_⟩
        · rw [upd_at]
          rcases hnext with w | w
          · exact w
          · exfalso
            have w2 : (b68 (200 * l + u)).toInt = 0 := by omega
            rw [w2, Int.mul_zero] at hc
            have hk0 := hk.1
            omega
        · rw [updL_at, hmul]
          exact kS_more hk hq s2 g2 hc
        · rw [upd_ne hy, updL_ne hy]; exact hfr y hy
      refine sp_ite (fun q1 => sp_pos ib6 (sp_pos ib6 (sp_some ⟨hk1, rfl, ?_⟩))) (fun q1 => ?_)
      · exact take (Or.inl (by rw [← hmul]; exact l_lt.mp q1))
      · have q1' : ¬ (a68 cell).toInt < sh i k * (b68 (200 * l + u)).toInt := fun w => q1 (l_lt.mpr (by rw [hmul]; exact w))
        refine sp_ite (fun q2 => sp_some ⟨hk1, rfl, k + 1, rfl, ⟨f, hf, ?_⟩, hfr⟩) (fun q2 => ?_)
        · have := l_le.mp q2
          rw [hmul, l0] at this
          exact kS_less (w := (a68 cell).toInt) hk hq s2 g2 (by omega) (Or.inl this)
        · have q2' : ¬ sh i k * (b68 (200 * l + u)).toInt ≤ 0 := fun w => q2 (l_le.mpr (by rw [hmul]; exact w))
          have hw' : 0 < (b68 (200 * l + u)).toInt := by
            rcases Int.lt_or_le 0 (b68 (200 * l + u)).toInt with w | w
            · exact w
            · have w2 : (b68 (200 * l + u)).toInt = 0 := by omega
              rw [w2, Int.mul_zero] at q2'
              omega
          have hnx : (b69 (200 * l + u) + 1).toInt = ((f' + 1 : Nat) : Int) := by
            rcases hnext with w | w
            · exact w
            · exact absurd hw' w
          refine sp_pos ib6 (sp_ite (fun q3 => sp_pos ib6 ?_) (fun q3 => sp_some ⟨hk1, rfl, k + 1, rfl, ⟨f, hf, ?_⟩, hfr⟩))
          · have q3' := l_eq.mp q3
            rw [hmul] at q3'
            refine sp_ite (fun q4 => sp_some ⟨hk1, rfl, k + 1, rfl, ⟨f, hf, ?_⟩, hfr⟩) (fun q4 => sp_pos ib6 (sp_pos ib6 (sp_some ⟨hk1, rfl, ?_⟩)))
            · have := i_le.mp q4
              rw [hf, hnx] at this
              exact kS_less (w := (a68 cell).toInt) hk hq s2 g2 (by omega) (Or.inr (Or.inr (by omega)))
            · have q4' : ¬ (a69 cell).toInt ≤ (b69 (200 * l + u) + 1).toInt := fun w => q4 (i_le.mpr w)
              rw [hf, hnx] at q4'
              exact take (Or.inr ⟨by omega, q3', by omega⟩)
          · have q3' : ¬ sh i k * (b68 (200 * l + u)).toInt = (a68 cell).toInt := fun w => q3 (l_eq.mpr (by rw [hmul]; exact w))
            exact kS_less (w := (a68 cell).toInt) hk hq s2 g2 (by omega) (Or.inr (Or.inl (by omega)))
