/-! ===== the likeliest run: the class's find, the reference's table ===== -/
def lkQ (na : Nat → Nat) (tg : Nat → Nat → Nat) (sh : Nat → Nat → Int) (r18 r19 r21 r32 r33 r65 r66 : Nat → Int32) (q65 : Nat → Int64) : Prop := (sf na tg (en_ r33 (r32 7)) (dwB r18 r19 r33) 201 0 = none ∧ (q65 1).toInt = 0) ∨ ∃ s0 f : Nat, sf na tg (en_ r33 (r32 7)) (dwB r18 r19 r33) 201 0 = some s0 ∧ wS na tg sh (en_ r33 (r32 7)) (dwB r18 r19 r33) (sf na tg (en_ r33 (r32 7)) (dwB r18 r19 r33) 201) 10 s0 (q65 1).toInt f ∧ (0 < (q65 1).toInt → (r65 2).toInt = (f : Nat) ∧ drQ na tg sh (en_ r33 (r32 7)) (dwB r18 r19 r33) r19 r21 r33 s0 f f r66)
theorem s5_find (F : Nat) (hF : 3000 ≤ F) {n : Nat} {fr na : Nat → Nat} {tg : Nat → Nat → Nat} {sh : Nat → Nat → Int} {r18 r19 r21 r32 r33 r37 r38 r39 r65 r66 r67 r69 : Nat → Int32} {q65 q68 : Nat → Int64} (h : lG n fr na tg sh r18 r19 r32 r33 r37 r38 r39) (hc : r65 0 = r32 0 → lkQ na tg sh r18 r19 r21 r32 r33 r65 r66 q65) :
    sp (fnX5_find F r18 r19 r21 r32 r33 r37 r38 r39 r65 r66 r67 r69 q65 q68) (fun e => e.1 0 = r32 0 ∧ lkQ na tg sh r18 r19 r21 r32 r33 e.1 e.2.1 e.2.2.2.2.1) := by
  have hshB := lG_shB h
  have hst : ∀ s x, s < n → sf na tg (en_ r33 (r32 7)) (dwB r18 r19 r33) 201 s = some x → x < n := fun s x hs => sf_lt (fun s hs hna => (hshB s hs 0 hna).2.2) 201 s x hs
  have l0 : (0 : Int64).toInt = 0 := rfl
  have c00 : (0 : Int32).toNatClampNeg = 0 := rfl
  have e2000 : (2000 : Int32).toInt = 2000 := rfl
  unfold fnX5_find
  refine sp_ite (fun hv => sp_some ⟨hv, hc hv⟩) (fun hv => ?_)
  refine sp_bind (s5_stops F (by omega) (r67 := r67) h) (fun a67 h67 => ?_)
  refine sp_bind (s5_table F hF (b69 := r69) (b68 := q68) h h67) ?_
  rintro ⟨a69, a68⟩ hT
  dsimp only at hT
  refine sp_u2 (sp_pos (by decide) ?_)
  rw [c00]
  have hn0 := h.2.1
  have hn1 := h.1
  have ho := h67 0 hn0
  have u0 : upd (upd r65 0 (r32 0)) 2 (0 : Int32) 0 = r32 0 := by rw [upd_ne (by decide), upd_at]
  have u2 : (upd (upd r65 0 (r32 0)) 2 (0 : Int32) 2).toInt = 0 := by rw [upd_at]; rfl
  cases hq : sf na tg (en_ r33 (r32 7)) (dwB r18 r19 r33) 201 0 with
  | none =>
    rw [hq] at ho
    refine sp_pos (i_eq.mpr ho) (sp_pos (l_le.mpr (Int.le_refl _)) (sp_some ⟨u0, Or.inl ⟨hq, ?_⟩⟩))
    dsimp only
    rw [updL_at]
    rfl
  | some s0 =>
    rw [hq] at ho
    have ho' : (a67 0).toInt = (s0 : Nat) := ho
    have hs0 := hst 0 s0 hn0 hq
    have hneg : ¬ a67 0 = -1 := fun w => by
      have w1 : (a67 0).toInt = -1 := by rw [w]; rfl
      clear w
      omega
    refine sp_neg hneg ?_
    clear hneg
    have hix : (2000 + a67 0).toInt = ((200 * 10 + s0 : Nat) : Int) := by rw [i_add (by omega) (by omega), e2000, ho']; omega
    have cix : (2000 + a67 0).toNatClampNeg = 200 * 10 + s0 := by rw [i_cl, hix]; rfl
    refine sp_pos (by decide) (sp_pos (mj_ib_of (by omega) (by omega)) ?_)
    rw [cix]
    obtain ⟨f, f1, f2⟩ := hT 10 (Nat.le_refl _) s0 hs0 (sf_is 201 _ _ hq)
    refine sp_ite (fun hz => sp_some ⟨u0, Or.inr ⟨s0, f, hq, ?_, fun w => ?_⟩⟩) (fun hz => ?_)
    · dsimp only; rw [updL_at]; exact f2
    · exfalso
      dsimp only at w
      rw [updL_at] at w
      have := l_le.mp hz
      rw [l0] at this
      omega
    · have hz' : 0 < (a68 (200 * 10 + s0)).toInt := by
        have : ¬ (a68 (200 * 10 + s0)).toInt ≤ (0 : Int64).toInt := fun w => hz (l_le.mpr w)
        rw [l0] at this
        omega
      refine sp_bind (s5_trace F hF (r21 := r21) (r66 := r66) h h67 hT hq u2 hz' f1) ?_
      rintro ⟨c65, c66⟩ ⟨w1, w2, w3⟩
      dsimp only at w1 w2 w3
      refine sp_some ⟨?_, Or.inr ⟨s0, f, hq, ?_, fun _ => ⟨w1, w3⟩⟩⟩
      · dsimp only; rw [w2 0 (by decide)]; exact u0
      · dsimp only; rw [updL_at]; exact f2
/-- what the reference has of the graph, for runs -/
def lH (n : Nat) (na : Nat → Nat) (tg : Nat → Nat → Nat) (sh : Nat → Nat → Int) (r18 r19 r21 r32 r33 r71 r73 r80 r83 r84 r85 : Nat → Int32) : Prop := n ≤ 200 ∧ 0 < n ∧ (r71 24).toInt = (n : Nat) ∧ (0 ≤ (r18 0).toInt ∧ (r18 0).toInt ≤ 40) ∧ r71 4 = r18 0 ∧ r71 4 = r32 7 ∧ rA n na tg r83 r84 ∧ (∀ s, s < n → ∀ k, k < na s → (r85 (10 * s + k)).toInt = sh s k ∧ 1 ≤ sh s k ∧ sh s k ≤ 60) ∧ (∀ s, s < n → r80 s = r33 s ∧ 0 ≤ (r33 s).toInt) ∧ ∀ k : Nat, (k : Int) < (r18 0).toInt → r73 (12 * k) = r19 k ∧ (r19 k = 2 → r73 (12 * k + 2) = r21 k ∧ 0 ≤ (r21 k).toInt)
theorem lH_shB {n : Nat} {na : Nat → Nat} {tg : Nat → Nat → Nat} {sh : Nat → Nat → Int} {r18 r19 r21 r32 r33 r71 r73 r80 r83 r84 r85 : Nat → Int32} (h : lH n na tg sh r18 r19 r21 r32 r33 r71 r73 r80 r83 r84 r85) : shB n na tg sh := by
  obtain ⟨h1, h2, h3, h4, h5, h6, h7, h8, h9, h10⟩ := h
  intro s hs k hk
  exact ⟨(h8 s hs k hk).2.1, (h8 s hs k hk).2.2, ((h7 s hs).2.2 k hk).2⟩
theorem g11_isEnd (F : Nat) {r32 r33 r71 r80 : Nat → Int32} {x : Int32} {s : Nat} (hx : x.toInt = (s : Nat)) (hs : s < 200) (h4 : r71 4 = r32 7) (h80 : r80 s = r33 s) : fnX11_isEnd F r71 r80 x = some (if en_ r33 (r32 7) s then 1 else 0) := by
  have hcx : x.toNatClampNeg = s := by rw [i_cl, hx]; rfl
  have hib : mj_ib x 200 = true := mj_ib_of (by omega) (by omega)
  unfold fnX11_isEnd
  rw [if_pos hib, hcx, h80, h4]
  by_cases e : r33 s = r32 7
  · rw [if_pos e, if_pos (show en_ r33 (r32 7) s = true from decide_eq_true e)]
  · rw [if_neg e, if_neg (show ¬ en_ r33 (r32 7) s = true from fun z => e (of_decide_eq_true z))]
theorem g11_isDrawn (F : Nat) {n : Nat} {na : Nat → Nat} {tg : Nat → Nat → Nat} {sh : Nat → Nat → Int} {r18 r19 r21 r32 r33 r71 r73 r80 r83 r84 r85 : Nat → Int32} (h : lH n na tg sh r18 r19 r21 r32 r33 r71 r73 r80 r83 r84 r85) {x : Int32} {s : Nat} (hx : x.toInt = (s : Nat)) (hs : s < n) : fnX11_isDrawn F r71 r73 r80 x = some (if dwB r18 r19 r33 s then 1 else 0) := by
  obtain ⟨h1, h2, h3, h4, h5, h6, h7, h8, h9, h10⟩ := h
  have hcx : x.toNatClampNeg = s := by rw [i_cl, hx]; rfl
  have hib : mj_ib x 200 = true := mj_ib_of (by omega) (by omega)
  obtain ⟨g1, g2⟩ := h9 s hs
  unfold fnX11_isDrawn
  rw [if_pos hib, hcx, g1, h5]
  by_cases e : r18 0 ≤ r33 s
  · have e2 := i_le.mp e
    rw [if_pos e, if_neg (fun z => by have := (dwB_t.mp z).1; omega)]
  · have e2 : ¬ (r18 0).toInt ≤ (r33 s).toInt := fun z => e (i_le.mpr z)
    have hk : (r33 s).toInt = (((r33 s).toInt.toNat : Nat) : Int) := by omega
    have hof := g_of F r73 (x := r33 s) (w := 0) (r33 s).toInt.toNat 0 hk rfl (by omega)
    rw [Nat.add_zero, (h10 (r33 s).toInt.toNat (by omega)).1] at hof
    rw [if_neg e, if_pos hib, hof, Option.bind_some, if_pos hib, Option.bind_some]
    by_cases e3 : r19 (r33 s).toInt.toNat = 1
    · rw [if_pos e3, if_pos (dwB_t.mpr ⟨by omega, Or.inl e3⟩)]
    · rw [if_neg e3]
      by_cases e4 : r19 (r33 s).toInt.toNat = 2
      · rw [if_pos e4, if_pos (dwB_t.mpr ⟨by omega, Or.inr e4⟩)]
      · rw [if_neg e4, if_neg (fun z => by rcases (dwB_t.mp z).2 with w | w; exact e3 w; exact e4 w)]
theorem ix10z {x : Int32} {a : Nat} (hx : x.toInt = (a : Nat)) (ha : a < 200) : (10 * x).toNatClampNeg = 10 * a ∧ mj_ib (10 * x) 2000 = true := by
  have e10 : (10 : Int32).toInt = 10 := rfl
  have mc : (10 * x).toInt = ((10 * a : Nat) : Int) := by rw [i_mul (by rw [e10, hx]; omega) (by rw [e10, hx]; omega), e10, hx]; omega
  exact ⟨by rw [i_cl, mc]; rfl, mj_ib_of (by rw [mc]; omega) (by rw [mc]; omega)⟩
theorem s11_ahead (F : Nat) (hF : 600 ≤ F) {n : Nat} {na : Nat → Nat} {tg : Nat → Nat → Nat} {sh : Nat → Nat → Int} {r18 r19 r21 r32 r33 r71 r73 r80 r83 r84 r85 : Nat → Int32} (h : lH n na tg sh r18 r19 r21 r32 r33 r71 r73 r80 r83 r84 r85) {x : Int32} {i : Nat} (hx : x.toInt = (i : Nat)) (hi : i < n) :
    sp (fnX11_ahead F r71 r73 r80 r83 r84 x) (fun o => oR (sf na tg (en_ r33 (r32 7)) (dwB r18 r19 r33) 201 i) o) := by
  have hG := h
  have hshB := lH_shB h
  obtain ⟨h1, h2, h3, h4, h5, h6, h7, h8, h9, h10⟩ := h
  have e0 : (0 : Int32).toInt = 0 := rfl
  rw [sf_eq h1 (fun s hs hna => (hshB s hs 0 hna).2.2) hi]
  unfold fnX11_ahead
  refine sp_bind (sp_cnt (fun s : Int32 × Int32 => s.2) (n + 1) (by omega) (fun k s => ∃ a, a < n ∧ s.1.toInt = (a : Nat) ∧ sf na tg (en_ r33 (r32 7)) (dwB r18 r19 r33) (n + 1) i = sf na tg (en_ r33 (r32 7)) (dwB r18 r19 r33) (n + 1 - k) a) (Q := fun e : Unit ⊕ (Int32 ⊕ Unit) => Sum.elim (fun _ => sf na tg (en_ r33 (r32 7)) (dwB r18 r19 r33) (n + 1) i = none) (Sum.elim (fun y : Int32 => ∃ u : Nat, y.toInt = ((u : Nat) : Int) ∧ sf na tg (en_ r33 (r32 7)) (dwB r18 r19 r33) (n + 1) i = some u) (fun _ => sf na tg (en_ r33 (r32 7)) (dwB r18 r19 r33) (n + 1) i = none)) e) ?_ F 0 _ (by omega) e0 ⟨i, hi, hx, rfl⟩ (by omega)) ?_
  · rintro k ⟨y, z⟩ hk hz hcz hz1 ⟨a, a1, a2, a3⟩
    refine sp_u2 ?_
    dsimp only at hz hcz hz1 a2
    unfold bdX11_ahead_4
    refine sp_ite (fun hw => sp_some ?_) (fun hw => ?_)
    · have := i_lt.mp hw
      have : k = n + 1 := by omega
      subst this
      rw [Nat.sub_self] at a3
      exact a3
    · have hw2 : ¬ (r71 24).toInt < z.toInt := fun q => hw (i_lt.mpr q)
      have hsf := sf_s na tg (en_ r33 (r32 7)) (dwB r18 r19 r33) (n - k) a
      rw [show n - k + 1 = n + 1 - k by omega] at hsf
      rw [hsf] at a3
      rw [g11_isDrawn F hG a2 a1, Option.bind_some]
      by_cases q2 : dwB r18 r19 r33 a = true
      · rw [if_pos q2, if_neg (show ¬ (1 : Int32) = 0 from by decide)]
        rw [if_pos (by rw [q2]; simp)] at a3
        exact sp_some ⟨a, a2, a3⟩
      · rw [if_neg q2, if_pos rfl, g11_isEnd F a2 (by omega) h6 (h9 a a1).1, Option.bind_some]
        by_cases q1 : en_ r33 (r32 7) a = true
        · rw [if_pos q1, if_neg (show ¬ (1 : Int32) = 0 from by decide)]
          rw [if_pos (by rw [q1]; rfl)] at a3
          exact sp_some ⟨a, a2, a3⟩
        · rw [if_neg q1, if_pos rfl]
          rw [if_neg (by simp [q1, q2])] at a3
          obtain ⟨c1, c2, c3⟩ := h7 a a1
          have cy : y.toNatClampNeg = a := by rw [i_cl, a2]; rfl
          refine sp_pos (mj_ib_of (by omega) (by omega)) ?_
          rw [cy]
          refine sp_ite (fun q3 => sp_some ?_) (fun q3 => ?_)
          · rw [if_pos (by rw [q3] at c1; omega)] at a3
            exact a3
          · have hna : 0 < na a := by
              rcases Nat.eq_zero_or_pos (na a) with w | w
              · exact absurd (i_eq.mpr (by rw [c1, w]; rfl)) q3
              · exact w
            rw [if_neg (by omega)] at a3
            obtain ⟨t1, t2⟩ := c3 0 hna
            have hkn : k < n + 1 := by omega
            have e9 : n + 1 - (k + 1) = n - k := by omega
            obtain ⟨cz, ibz⟩ := ix10z a2 (show a < 200 by omega)
            refine sp_pos ibz (sp_some ⟨hkn, rfl, tg a 0, t2, ?_, ?_⟩)
            · dsimp only; rw [cz]; exact t1
            · rw [e9]; exact a3
  · rintro (e | (e | e)) he
    · refine sp_some ?_
      unfold oR
      rw [show sf na tg (en_ r33 (r32 7)) (dwB r18 r19 r33) (n + 1) i = none from he]
      rfl
    · obtain ⟨u, u1, u2⟩ := he
      refine sp_some ?_
      unfold oR
      rw [u2]
      exact u1
    · refine sp_some ?_
      unfold oR
      rw [show sf na tg (en_ r33 (r32 7)) (dwB r18 r19 r33) (n + 1) i = none from he]
      rfl
theorem ix200b {x y : Int32} {l i : Nat} (hx : x.toInt = (l : Nat)) (hy : y.toInt = (i : Nat)) (hl : l ≤ 10) (hi : i < 200) : (200 * x + y).toNatClampNeg = 200 * l + i ∧ mj_ib (200 * x + y) 2200 = true := by
  have e200 : (200 : Int32).toInt = 200 := rfl
  have mc : (200 * x).toInt = ((200 * l : Nat) : Int) := by rw [i_mul (by rw [e200, hx]; omega) (by rw [e200, hx]; omega), e200, hx]; omega
  have dc : (200 * x + y).toInt = ((200 * l + i : Nat) : Int) := by rw [i_add (by rw [mc, hy]; omega) (by rw [mc, hy]; omega), mc, hy]; omega
  exact ⟨by rw [i_cl, dc]; rfl, mj_ib_of (by rw [dc]; omega) (by rw [dc]; omega)⟩
/-- the reference's table of d draws -/
def tbQ (n : Nat) (na : Nat → Nat) (tg : Nat → Nat → Nat) (sh : Nat → Nat → Int) (en dw : Nat → Bool) (d : Nat) (q96 : Nat → Int64) : Prop := ∀ i, i < n → ¬ en i = true → (q96 (200 * d + i)).toInt = mm na tg sh en dw (sf na tg en dw 201) d i
theorem s11_mostOf (F : Nat) (hF : 600 ≤ F) {n : Nat} {na : Nat → Nat} {tg : Nat → Nat → Nat} {sh : Nat → Nat → Int} {r18 r19 r21 r32 r33 r71 r73 r80 r83 r84 r85 : Nat → Int32} {q96 : Nat → Int64} (h : lH n na tg sh r18 r19 r21 r32 r33 r71 r73 r80 r83 r84 r85) {x1 x2 : Int32} {d i : Nat} (hx1 : x1.toInt = (d : Nat)) (hd : d ≤ 10) (hx2 : x2.toInt = (i : Nat)) (hi : i < n) (hT : tbQ n na tg sh (en_ r33 (r32 7)) (dwB r18 r19 r33) d q96) :
    sp (fnX11_mostOf F r71 r73 r80 r83 r84 q96 x1 x2) (fun o => o.toInt = op (mm na tg sh (en_ r33 (r32 7)) (dwB r18 r19 r33) (sf na tg (en_ r33 (r32 7)) (dwB r18 r19 r33) 201) d) (sf na tg (en_ r33 (r32 7)) (dwB r18 r19 r33) 201 i)) := by
  have hshB := lH_shB h
  have hst : ∀ s x, s < n → sf na tg (en_ r33 (r32 7)) (dwB r18 r19 r33) 201 s = some x → x < n := fun s x hs => sf_lt (fun s hs hna => (hshB s hs 0 hna).2.2) 201 s x hs
  have hG := h
  obtain ⟨h1, h2, h3, h4, h5, h6, h7, h8, h9, h10⟩ := h
  have e0 : (0 : Int32).toInt = 0 := rfl
  unfold fnX11_mostOf
  refine sp_bind (s11_ahead F hF hG hx2 hi) (fun o1 ho => ?_)
  cases hq : sf na tg (en_ r33 (r32 7)) (dwB r18 r19 r33) 201 i with
  | none =>
    rw [hq] at ho
    exact sp_pos (i_eq.mpr ho) (sp_some rfl)
  | some u =>
    rw [hq] at ho
    have ho' : o1.toInt = (u : Nat) := ho
    have hun := hst i u hi hq
    have hneg : ¬ o1 = -1 := fun w => by
      have w1 : o1.toInt = -1 := by rw [w]; rfl
      clear w
      omega
    refine sp_neg hneg ?_
    clear hneg
    rw [g11_isEnd F ho' (by omega) h6 (h9 u hun).1, Option.bind_some]
    by_cases q1 : en_ r33 (r32 7) u = true
    · rw [if_pos q1, if_neg (show ¬ (1 : Int32) = 0 from by decide)]
      show sp _ (fun o : Int64 => o.toInt = mm na tg sh (en_ r33 (r32 7)) (dwB r18 r19 r33) (sf na tg (en_ r33 (r32 7)) (dwB r18 r19 r33) 201) d u)
      rw [mm_en q1]
      refine sp_ite (fun q2 => sp_some ?_) (fun q2 => sp_some ?_)
      · rw [if_pos (by rw [q2] at hx1; omega)]; rfl
      · rw [if_neg (fun z => q2 (i_eq.mpr (by rw [hx1, z]; rfl)))]; rfl
    · rw [if_neg q1, if_pos rfl]
      obtain ⟨c1, ib1⟩ := ix200b hx1 ho' hd (show u < 200 by omega)
      refine sp_pos ib1 (sp_some ?_)
      rw [c1]
      exact hT u hun q1
