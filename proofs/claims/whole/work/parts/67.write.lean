/-! ===== the class writes its equations ===== -/
def sS (r36 : Nat → Int32) (i : Nat) : Bool := decide (r36 i = 0)
def uK (r36 : Nat → Int32) (na : Nat → Nat) (i : Nat) : Bool := decide (r36 i = 0) && decide (0 < na i)
theorem sS_t {r36 : Nat → Int32} {i : Nat} : sS r36 i = true ↔ r36 i = 0 := by simp [sS]
theorem uK_t {r36 : Nat → Int32} {na : Nat → Nat} {i : Nat} : uK r36 na i = true ↔ r36 i = 0 ∧ 0 < na i := by simp [uK]
theorem ix_ne {m a b a' b' : Nat} (hb : b ≤ m) (hb' : b' ≤ m) (h : a ≠ a' ∨ b ≠ b') : a * (m + 1) + b ≠ a' * (m + 1) + b' := by
  intro e
  have h1 : (a * (m + 1) + b) / (m + 1) = a := by rw [Nat.mul_comm, Nat.mul_add_div (by omega), Nat.div_eq_of_lt (by omega), Nat.add_zero]
  have h2 : (a' * (m + 1) + b') / (m + 1) = a' := by rw [Nat.mul_comm, Nat.mul_add_div (by omega), Nat.div_eq_of_lt (by omega), Nat.add_zero]
  rw [e] at h1
  have h3 : a = a' := h1.symm.trans h2
  subst h3
  rcases h with h | h
  · exact h rfl
  · omega
theorem ix_lt {m a b : Nat} (ha : a < m) (hb : b ≤ m) (hm : m ≤ 200) : a * (m + 1) + b < 40200 := by
  have h1 : (a + 1) * (m + 1) ≤ m * (m + 1) := Nat.mul_le_mul_right _ ha
  have h2 : m * (m + 1) ≤ 200 * 201 := Nat.mul_le_mul hm (by omega)
  have h3 : (a + 1) * (m + 1) = a * (m + 1) + (m + 1) := Nat.succ_mul a (m + 1)
  omega
theorem q_arcsOf (F : Nat) {n : Nat} {fr na : Nat → Nat} {tg : Nat → Nat → Nat} {r37 r38 : Nat → Int32} (hA : cA n fr na tg r37 r38) (hn : n ≤ 200) {x : Int32} {i : Nat} (hx : x.toInt = (i : Nat)) (hi : i < n) : sp (fnX4_arcsOf F r37 x) (fun o => o.toInt = (na i : Nat)) := by
  obtain ⟨a1, a2, a3, a4⟩ := hA i hi
  have e1 : (1 : Int32).toInt = 1 := rfl
  have hx1 : (x + 1).toInt = ((i + 1 : Nat) : Int) := by rw [i_add (by omega) (by omega), hx, e1]; omega
  have c0 : x.toNatClampNeg = i := by rw [i_cl, hx]; rfl
  have c1 : (x + 1).toNatClampNeg = i + 1 := by rw [i_cl, hx1]; rfl
  unfold fnX4_arcsOf
  refine sp_pos (mj_ib_of (by omega) (by omega)) (sp_pos (mj_ib_of (by omega) (by omega)) (sp_some ?_))
  rw [c0, c1, i_sub (by rw [a2, a1]; omega) (by rw [a2, a1]; omega), a1, a2]
  omega
def wJ (U : Nat → Bool) (r41 : Nat → Int32) (i : Nat) (a41 a43 a44 : Nat → Int32) : Prop := (∀ k, k ≠ 6 → a41 k = r41 k) ∧ (a41 6).toInt = (cn U i : Nat) ∧ (∀ j, j < i → U j = true → (a43 (cn U j)).toInt = (j : Nat)) ∧ ∀ j, j < i → (a44 j).toInt = if U j then ((cn U j : Nat) : Int) else -1
theorem wJ_no {U : Nat → Bool} {r41 a41 a43 a44 : Nat → Int32} {i : Nat} {v : Int32} (h : wJ U r41 i a41 a43 a44) (hU : ¬ U i = true) (hv : v.toInt = -1) : wJ U r41 (i + 1) a41 a43 (upd a44 i v) := by
  obtain ⟨j1, j2, j3, j4⟩ := h
  refine ⟨j1, ?_, fun j hj hUj => ?_, fun j hj => ?_⟩
  · rw [j2, cn_s, if_neg hU]; rfl
  · by_cases e : j = i
    · rw [e] at hUj; exact absurd hUj hU
    · exact j3 j (by omega) hUj
  · by_cases e : j = i
    · rw [e, upd_at, if_neg hU]; exact hv
    · rw [upd_ne e]; exact j4 j (by omega)
theorem wJ_yes {U : Nat → Bool} {r41 a41 a43 a44 w : Nat → Int32} {i : Nat} {x : Int32} (h : wJ U r41 i a41 a43 a44) (hU : U i = true) (hi : i < 200) (hx : x.toInt = (i : Nat)) (hw : ∀ j, j ≠ i → w j = a44 j) : wJ U r41 (i + 1) (upd a41 6 (a41 6 + 1)) (upd a43 (a41 6).toNatClampNeg x) (upd w i (a41 6)) := by
  obtain ⟨j1, j2, j3, j4⟩ := h
  have e1 : (1 : Int32).toInt = 1 := rfl
  have hcl := cn_le U i
  have c6 : (a41 6).toNatClampNeg = cn U i := by rw [i_cl, j2]; rfl
  refine ⟨fun k hk => by rw [upd_ne hk]; exact j1 k hk, ?_, fun j hj hUj => ?_, fun j hj => ?_⟩
  · rw [upd_at, cn_s, if_pos hU, i_add (by omega) (by omega), e1, j2]; omega
  · rw [c6]
    by_cases e : j = i
    · rw [e, upd_at]; exact hx
    · have := cn_lt U (show j < i by omega) hUj
      rw [upd_ne (by omega)]; exact j3 j (by omega) hUj
  · by_cases e : j = i
    · rw [e, upd_at, if_pos hU]; exact j2
    · rw [upd_ne e, hw j e]; exact j4 j (by omega)
theorem s2_wr1 (F : Nat) (hF : 50000 ≤ F) {n : Nat} (hn : n ≤ 200) {fr na : Nat → Nat} {tg : Nat → Nat → Nat} {r32 r36 r37 r38 r41 r43 r44 : Nat → Int32} (h2 : (r32 2).toInt = (n : Nat)) (hA : cA n fr na tg r37 r38) :
    sp (mj_it (mj_u2 (fun z0 => (mj_u2 (fun z1 => (mj_u2 (fun z2 z3 => bdX2_write_7 F r32 r36 r37 z0 z1 z2 z3)))))) F ((0 : Int32), (upd r41 6 (0 : Int32)), r43, r44)) (fun e => wJ (uK r36 na) r41 n e.1 e.2.1 e.2.2) := by
  have e0 : (0 : Int32).toInt = 0 := rfl
  refine sp_cnt (fun s : Int32 × (Nat → Int32) × (Nat → Int32) × (Nat → Int32) => s.1) n (by omega) (fun i s => wJ (uK r36 na) r41 i s.2.1 s.2.2.1 s.2.2.2) ?_ F 0 _ (by omega) e0 ?_ (by omega)
  · rintro i ⟨x, a41, a43, a44⟩ hi hx hcx hx1 hJ
    refine sp_u2 (sp_u2 (sp_u2 ?_))
    dsimp only at hx hcx hx1 hJ
    obtain ⟨j1, j2, j3, j4⟩ := id hJ
    have hcl := cn_le (uK r36 na) i
    unfold bdX2_write_7
    refine sp_ite (fun hz => sp_some ?_) (fun hz => ?_)
    · have := i_le.mp hz
      have : i = n := by omega
      subst this
      exact hJ
    · have hz2 : ¬ (r32 2).toInt ≤ x.toInt := fun z => hz (i_le.mpr z)
      have hin : i < n := by omega
      have hib : mj_ib x 200 = true := mj_ib_of (by omega) (by omega)
      refine sp_pos hib (sp_pos hib ?_)
      rw [hcx]
      refine sp_ite (fun hq => ?_) (fun hq => ?_)
      · refine sp_bind (q_arcsOf F hA hn hx hin) (fun o ho => ?_)
        refine sp_ite (fun ho2 => sp_some ⟨hin, rfl, ?_⟩) (fun ho2 => ?_)
        · have h9 := i_le.mp ho2
          exact wJ_no hJ (fun z => by have := (uK_t.mp z).2; omega) rfl
        · have h9 : ¬ o.toInt ≤ (0 : Int32).toInt := fun z => ho2 (i_le.mpr z)
          refine sp_pos hib (sp_pos (mj_ib_of (by omega) (by omega)) (sp_some ⟨hin, rfl, ?_⟩))
          exact wJ_yes hJ (uK_t.mpr ⟨hq, by omega⟩) (by omega) hx (fun j hj => upd_ne hj)
      · refine sp_some ⟨hin, rfl, wJ_no hJ (fun z => hq (uK_t.mp z).1) rfl⟩
  · exact ⟨fun k hk => upd_ne hk, by show (upd r41 6 (0 : Int32) 6).toInt = _; rw [upd_at]; rfl, fun j hj => absurd hj (Nat.not_lt_zero j), fun j hj => absurd hj (Nat.not_lt_zero j)⟩
theorem s_fill50 (F : Nat) (hF : 50000 ≤ F) (r50 : Nat → Int32) {y : Int32} {N : Nat} (hy : y.toInt = (N : Nat)) (hN : N ≤ 40200) : sp (fnJ7_fill_fda19 F r50 0 y 0) (fun e => ∀ j, j < N → e j = 0) := by
  have e0 : (0 : Int32).toInt = 0 := rfl
  have e4 : (40200 : Int32).toInt = 40200 := rfl
  unfold fnJ7_fill_fda19
  have hr : fnJ7_rangeCheck_23922 F 40200 0 y = some () := by
    unfold fnJ7_rangeCheck_23922
    rw [if_pos (i_le.mpr (by omega)), if_pos (i_le.mpr (by omega)), if_pos (i_le.mpr (by omega))]
  rw [hr, Option.bind_some]
  refine sp_bind (sp_cnt (fun s : Int32 × (Nat → Int32) => s.1) N (by omega) (fun i s => ∀ u, u < i → s.2 u = 0) (Q := fun e : Nat → Int32 => ∀ j, j < N → e j = 0) ?_ F 0 _ (by omega) e0 (fun u hu => absurd hu (Nat.not_lt_zero u)) (by omega)) (fun c hc => sp_some hc)
  rintro i ⟨x, a⟩ hi hx hcx hx1 hJ
  refine sp_u2 ?_
  dsimp only at hx hcx hx1 hJ
  unfold bdJ7_fill_fda19_10
  refine sp_ite (fun hz => sp_some ?_) (fun hz => ?_)
  · have := i_le.mp hz
    have : i = N := by omega
    subst this
    exact hJ
  · have hz2 : ¬ y.toInt ≤ x.toInt := fun z => hz (i_le.mpr z)
    refine sp_pos (mj_ib_of (by omega) (by omega)) (sp_some ⟨by omega, rfl, fun u hu => ?_⟩)
    dsimp only
    rw [hcx]
    by_cases hui : u = i
    · rw [hui, upd_at]
    · rw [upd_ne hui]; exact hJ u (by omega)
def wD (m : Nat) (u : Nat → Nat) (i : Nat) (a45 a50 : Nat → Int32) : Prop := (∀ a, a < i → (a45 a).toInt = ((a * (m + 1) : Nat) : Int)) ∧ ∀ a b, a < m → b ≤ m → (a50 (a * (m + 1) + b)).toInt = if a < i then (if b = a then 1 else if b = m then (if u a = 0 then 1 else 0) else 0) else 0
theorem wD_step {m i : Nat} {u : Nat → Nat} {a45 a50 : Nat → Int32} {q o w : Int32} (h : wD m u i a45 a50) (hi : i < m) (hq : q.toInt = ((i * (m + 1) : Nat) : Int)) (ho : o.toInt = 1) (hw : w.toInt = if u i = 0 then 1 else 0) : wD m u (i + 1) (upd a45 i q) (upd (upd a50 (i * (m + 1) + i) o) (i * (m + 1) + m) w) := by
  obtain ⟨h1, h2⟩ := h
  refine ⟨fun a ha => ?_, fun a b ha hb => ?_⟩
  · by_cases e : a = i
    · rw [e, upd_at]; exact hq
    · rw [upd_ne e]; exact h1 a (by omega)
  · by_cases e : a = i
    · subst e
      rw [if_pos (by omega)]
      by_cases e2 : b = m
      · rw [e2, upd_at, if_neg (by omega), if_pos rfl]; exact hw
      · rw [upd_ne (by omega)]
        by_cases e3 : b = a
        · rw [e3, upd_at, if_pos rfl]; exact ho
        · rw [upd_ne (by omega), h2 a b ha hb, if_neg (by omega), if_neg e3, if_neg e2]
    · rw [upd_ne (ix_ne hb (Nat.le_refl m) (Or.inl e)), upd_ne (ix_ne hb (by omega) (Or.inl e)), h2 a b ha hb]
      by_cases e2 : a < i
      · rw [if_pos e2, if_pos (show a < i + 1 by omega)]
      · rw [if_neg e2, if_neg (show ¬ a < i + 1 by omega)]
theorem s2_wr2 (F : Nat) (hF : 50000 ≤ F) {m : Nat} (hm : m ≤ 200) {u : Nat → Nat} {r41 r43 r45 r50 : Nat → Int32} (h6 : (r41 6).toInt = (m : Nat)) (h43 : ∀ b, b < m → (r43 b).toInt = (u b : Nat)) (h0 : ∀ j, j < m * (m + 1) → r50 j = 0) :
    sp (mj_it (mj_u2 (fun z0 => (mj_u2 (fun z1 z2 => bdX2_write_97 F r41 r43 z0 z1 z2)))) F ((0 : Int32), r45, r50)) (fun e => wD m u m e.1 e.2) := by
  have e0 : (0 : Int32).toInt = 0 := rfl
  have e1 : (1 : Int32).toInt = 1 := rfl
  refine sp_cnt (fun s : Int32 × (Nat → Int32) × (Nat → Int32) => s.1) m (by omega) (fun i s => wD m u i s.2.1 s.2.2) ?_ F 0 _ (by omega) e0 ?_ (by omega)
  · rintro i ⟨x, a45, a50⟩ hi hx hcx hx1 hJ
    refine sp_u2 (sp_u2 ?_)
    dsimp only at hx hcx hx1 hJ
    unfold bdX2_write_97
    refine sp_ite (fun hz => sp_some ?_) (fun hz => ?_)
    · have := i_le.mp hz
      have : i = m := by omega
      subst this
      exact hJ
    · have hz2 : ¬ (r41 6).toInt ≤ x.toInt := fun z => hz (i_le.mpr z)
      have him : i < m := by omega
      have hib : mj_ib x 200 = true := mj_ib_of (by omega) (by omega)
      have hl := ix_lt him (Nat.le_refl m) hm
      have s1 : (r41 6 + 1).toInt = ((m + 1 : Nat) : Int) := by rw [i_add (by omega) (by omega), h6, e1]; omega
      have s2 : x.toInt * (r41 6 + 1).toInt = ((i * (m + 1) : Nat) : Int) := by rw [hx, s1]; exact (Int.natCast_mul i (m + 1)).symm
      have hq : (x * (r41 6 + 1)).toInt = ((i * (m + 1) : Nat) : Int) := by rw [i_mul (by rw [s2]; omega) (by rw [s2]; omega), s2]
      refine sp_pos hib (sp_pos hib ?_)
      rw [hcx, upd_at]
      generalize x * (r41 6 + 1) = q at hq ⊢
      have d1 : (q + x).toInt = ((i * (m + 1) + i : Nat) : Int) := by rw [i_add (by omega) (by omega), hq, hx]; omega
      have d2 : (q + r41 6).toInt = ((i * (m + 1) + m : Nat) : Int) := by rw [i_add (by omega) (by omega), hq, h6]; omega
      have c1 : (q + x).toNatClampNeg = i * (m + 1) + i := by rw [i_cl, d1]; rfl
      have c2 : (q + r41 6).toNatClampNeg = i * (m + 1) + m := by rw [i_cl, d2]; rfl
      have hb1 : mj_ib (q + x) 40200 = true := mj_ib_of (by omega) (by omega)
      have hb2 : mj_ib (q + r41 6) 40200 = true := mj_ib_of (by omega) (by omega)
      have hold := hJ.2 i i him (by omega)
      rw [if_neg (by omega)] at hold
      refine sp_pos hb1 ?_
      rw [c1, c2]
      refine sp_bind (s3_plus F (b := 1) (by rw [hold]; exact ⟨by omega, by omega⟩) ⟨by decide, by decide⟩) (fun o ho => ?_)
      rw [hold, e1] at ho
      refine sp_pos hb1 (sp_pos hib (sp_pos hib (sp_ite (fun hy => sp_pos hb2 (sp_some ⟨him, rfl, ?_⟩)) (fun hy => sp_pos hb2 (sp_some ⟨him, rfl, ?_⟩)))))
      · have h9 := h43 i him
        rw [hy] at h9
        exact wD_step hJ him hq (by rw [ho]; rfl) (by rw [if_pos (by omega)]; rfl)
      · have h9 := h43 i him
        have h8 : ¬ (r43 i).toInt = (0 : Int32).toInt := fun z => hy (i_eq.mpr z)
        exact wD_step hJ him hq (by rw [ho]; rfl) (by rw [if_neg (by omega)]; rfl)
  · refine ⟨fun a ha => absurd ha (Nat.not_lt_zero a), fun a b ha hb => ?_⟩
    have h1 : (a + 1) * (m + 1) ≤ m * (m + 1) := Nat.mul_le_mul_right _ ha
    have h3 : (a + 1) * (m + 1) = a * (m + 1) + (m + 1) := Nat.succ_mul a (m + 1)
    rw [if_neg (Nat.not_lt_zero a)]
    dsimp only
    rw [h0 _ (by omega)]
    rfl
def wX (na : Nat → Nat) (tg : Nat → Nat → Nat) (sh : Nat → Nat → Int) (u : Nat → Nat) (m r k a b : Nat) : Int := if b < m then (if a = b then 1 else 0) - sm (if b < r then na (u b) else if b = r then k else 0) (fun j => if tg (u b) j = u a then 715408453 * sh (u b) j else 0) else (if u a = 0 then 1 else 0)
def wA (na : Nat → Nat) (tg : Nat → Nat → Nat) (sh : Nat → Nat → Int) (u : Nat → Nat) (m r k : Nat) (a50 : Nat → Int32) : Prop := ∀ a b, a < m → b ≤ m → fd (a50 (a * (m + 1) + b)).toInt ∧ cg (a50 (a * (m + 1) + b)).toInt (wX na tg sh u m r k a b)
theorem wA_next {na : Nat → Nat} {tg : Nat → Nat → Nat} {sh : Nat → Nat → Int} {u : Nat → Nat} {m r : Nat} {a50 : Nat → Int32} (h : wA na tg sh u m r (na (u r)) a50) : wA na tg sh u m (r + 1) 0 a50 := by
  intro a b ha hb
  have h1 := h a b ha hb
  have e : wX na tg sh u m (r + 1) 0 a b = wX na tg sh u m r (na (u r)) a b := by
    unfold wX
    by_cases e1 : b < m
    · rw [if_pos e1, if_pos e1]
      by_cases e2 : b < r
      · rw [if_pos (show b < r + 1 by omega), if_pos e2]
      · by_cases e3 : b = r
        · rw [if_pos (show b < r + 1 by omega), if_neg e2, if_pos e3, e3]
        · rw [if_neg (show ¬ b < r + 1 by omega), if_neg e2, if_neg e3]
          by_cases e4 : b = r + 1
          · rw [if_pos e4]
          · rw [if_neg e4]
    · rw [if_neg e1, if_neg e1]
  rw [e]
  exact h1
theorem wX_col {na : Nat → Nat} {tg : Nat → Nat → Nat} {sh : Nat → Nat → Int} {u : Nat → Nat} {m r k a b : Nat} (h : ¬ (b = r ∧ tg (u r) k = u a) ∨ m ≤ b) : wX na tg sh u m r (k + 1) a b = wX na tg sh u m r k a b := by
  unfold wX
  by_cases e1 : b < m
  · rw [if_pos e1, if_pos e1]
    by_cases e2 : b < r
    · rw [if_pos e2, if_pos e2]
    · by_cases e3 : b = r
      · rw [if_neg e2, if_neg e2, if_pos e3, if_pos e3, sm_s, e3]
        rw [if_neg (show ¬ tg (u r) k = u a from fun z => by rcases h with h | h; exact h ⟨e3, z⟩; omega), Int.add_zero]
      · rw [if_neg e2, if_neg e2, if_neg e3, if_neg e3]
  · rw [if_neg e1, if_neg e1]
theorem wX_hit {na : Nat → Nat} {tg : Nat → Nat → Nat} {sh : Nat → Nat → Int} {u : Nat → Nat} {m r k a : Nat} (hr : r < m) (h : tg (u r) k = u a) : wX na tg sh u m r (k + 1) a r = wX na tg sh u m r k a r - 715408453 * sh (u r) k := by
  unfold wX
  have z1 : (if r < r then na (u r) else if r = r then k + 1 else 0) = k + 1 := by rw [if_neg (Nat.lt_irrefl r), if_pos rfl]
  have z2 : (if r < r then na (u r) else if r = r then k else 0) = k := by rw [if_neg (Nat.lt_irrefl r), if_pos rfl]
  rw [if_pos hr, if_pos hr, z1, z2, sm_s, if_pos h]
  omega
/-- ranks and unknowns as the class has them -/
def rkQ (n : Nat) (U : Nat → Bool) (u : Nat → Nat) (r43 r44 : Nat → Int32) : Prop := (∀ b, b < cn U n → (r43 b).toInt = (u b : Nat) ∧ u b < n ∧ U (u b) = true ∧ cn U (u b) = b) ∧ (∀ t, t < n → (r44 t).toInt = if U t then ((cn U t : Nat) : Int) else -1) ∧ ∀ i, i < n → U i = true → u (cn U i) = i
theorem s2_wrArcs (F : Nat) (hF : 50000 ≤ F) {n : Nat} (hn : n ≤ 200) {fr na : Nat → Nat} {tg : Nat → Nat → Nat} {sh : Nat → Nat → Int} {U : Nat → Bool} {u : Nat → Nat} {r37 r38 r39 r43 r44 r45 r50 : Nat → Int32} (hA : cA n fr na tg r37 r38) (hs : ∀ i, i < n → ∀ k, k < na i → (r39 (fr i + k)).toInt = sh i k ∧ 1 ≤ sh i k ∧ sh i k ≤ 60) (hk : rkQ n U u r43 r44) (h45 : ∀ a, a < cn U n → (r45 a).toInt = ((a * (cn U n + 1) : Nat) : Int)) {x : Int32} {r : Nat} (hx : x.toInt = (r : Nat)) (hr : r < cn U n) (hw : wA na tg sh u (cn U n) r 0 r50) :
    sp (fnX2_writeArcs F r37 r38 r39 r43 r44 r45 r50 x) (fun e => wA na tg sh u (cn U n) (r + 1) 0 e) := by
  have e1 : (1 : Int32).toInt = 1 := rfl
  obtain ⟨k1, k2, k3⟩ := hk
  have hml := cn_le U n
  obtain ⟨b1, b2, b3, b4⟩ := k1 r hr
  obtain ⟨a1, a2, a3, a4⟩ := hA (u r) b2
  have hcx : x.toNatClampNeg = r := by rw [i_cl, hx]; rfl
  unfold fnX2_writeArcs
  refine sp_pos (mj_ib_of (by omega) (by omega)) ?_
  rw [hcx]
  generalize r43 r = y at b1 ⊢
  have y1 : (y + 1).toInt = ((u r + 1 : Nat) : Int) := by rw [i_add (by omega) (by omega), b1, e1]; omega
  have cy : y.toNatClampNeg = u r := by rw [i_cl, b1]; rfl
  have cy1 : (y + 1).toNatClampNeg = u r + 1 := by rw [i_cl, y1]; rfl
  refine sp_pos (mj_ib_of (by omega) (by omega)) ?_
  rw [cy]
  refine sp_bind (sp_cnt (fun s : Int32 × (Nat → Int32) => s.1) (fr (u r) + na (u r)) (by omega) (fun j s => ∃ k, j = fr (u r) + k ∧ wA na tg sh u (cn U n) r k s.2) (Q := fun e : Nat → Int32 => wA na tg sh u (cn U n) (r + 1) 0 e) ?_ F (fr (u r)) _ (by omega) a1 ⟨0, rfl, hw⟩ (by omega)) (fun c hc => sp_some hc)
  rintro j ⟨z, a50⟩ hj hz hcz hz1 ⟨k, rfl, hJ⟩
  refine sp_u2 ?_
  dsimp only at hz hcz hz1 hJ
  unfold bdX2_writeArcs_15
  refine sp_pos (mj_ib_of (by omega) (by omega)) ?_
  rw [cy1]
  refine sp_ite (fun hy => sp_some ?_) (fun hy => ?_)
  · have := i_le.mp hy
    have : k = na (u r) := by omega
    subst this
    exact wA_next hJ
  · have hy2 : ¬ (r37 (u r + 1)).toInt ≤ z.toInt := fun w => hy (i_le.mpr w)
    have hkn : k < na (u r) := by omega
    obtain ⟨t1, t2⟩ := a4 k hkn
    obtain ⟨s1, s2, s3⟩ := hs (u r) b2 k hkn
    have hib : mj_ib z 2000 = true := mj_ib_of (by omega) (by omega)
    refine sp_pos hib ?_
    rw [hcz]
    generalize ht : tg (u r) k = t at *
    have ct : (r38 (fr (u r) + k)).toNatClampNeg = t := by rw [i_cl, t1]; rfl
    refine sp_pos (mj_ib_of (by omega) (by omega)) ?_
    rw [ct]
    have kt := k2 t t2
    refine sp_ite (fun hq => ?_) (fun hq => ?_)
    · have hq1 : (r44 t).toInt = -1 := by rw [hq]; rfl
      clear hq
      have hU : ¬ U t = true := fun w => by rw [if_pos w] at kt; omega
      refine sp_some ⟨by omega, rfl, k + 1, by omega, fun a b ha hb => ?_⟩
      rw [wX_col (Or.inl (fun w => hU (by rw [← ht, w.2]; exact (k1 a ha).2.2.1)))]
      exact hJ a b ha hb
    · have hq1 : ¬ (r44 t).toInt = -1 := fun w => hq (i_eq.mpr w)
      clear hq
      have hU : U t = true := by
        by_cases w : U t = true
        · exact w
        · rw [if_neg w] at kt; exact absurd kt hq1
      rw [if_pos hU] at kt
      have hct := cn_lt U t2 hU
      have c44 : (r44 t).toNatClampNeg = cn U t := by rw [i_cl, kt]; rfl
      have h45t := h45 (cn U t) hct
      have hl := ix_lt hct (Nat.le_of_lt hr) (by omega)
      have d1 : (r45 (cn U t) + x).toInt = ((cn U t * (cn U n + 1) + r : Nat) : Int) := by rw [i_add (by omega) (by omega), h45t, hx]; omega
      have c1 : (r45 (cn U t) + x).toNatClampNeg = cn U t * (cn U n + 1) + r := by rw [i_cl, d1]; rfl
      have hb1 : mj_ib (r45 (cn U t) + x) 40200 = true := mj_ib_of (by omega) (by omega)
      refine sp_pos (mj_ib_of (by omega) (by omega)) ?_
      rw [c44]
      refine sp_pos hb1 (sp_pos hib ?_)
      rw [c1]
      obtain ⟨o1, o2⟩ := hJ (cn U t) r hct (Nat.le_of_lt hr)
      refine sp_bind (s3_sixtieth F (by rw [s1]; exact ⟨by omega, by omega⟩)) (fun o9 h9 => ?_)
      refine sp_bind (s3_less F o1 (by rw [h9]; exact fd_md _)) (fun o10 h10 => sp_pos hb1 (sp_some ⟨by omega, rfl, k + 1, by omega, fun a b ha hb => ?_⟩))
      dsimp only
      by_cases e : a = cn U t ∧ b = r
      · obtain ⟨rfl, rfl⟩ := e
        rw [upd_at, wX_hit hr (by rw [ht, k3 t t2 hU])]
        refine ⟨by rw [h10]; exact fd_md _, ?_⟩
        rw [h10, h9, s1, Int.mul_comm (sh (u b) k)]
        generalize 715408453 * sh (u b) k = w
        unfold cg at *
        omega
      · have e' : a ≠ cn U t ∨ b ≠ r := by
          by_cases q : a = cn U t
          · exact Or.inr (fun w => e ⟨q, w⟩)
          · exact Or.inl q
        rw [upd_ne (ix_ne hb (Nat.le_of_lt hr) e'), wX_col (Or.inl (fun w => ?_))]
        · exact hJ a b ha hb
        · rcases e' with q | q
          · apply q
            have := (k1 a ha).2.2.2
            rw [← w.2, ht] at this
            exact this.symm
          · exact q w.1
theorem wA_mx {na : Nat → Nat} {tg : Nat → Nat → Nat} {sh : Nat → Nat → Int} {u : Nat → Nat} {m : Nat} {a50 : Nat → Int32} (h : wA na tg sh u m m 0 a50) : ∀ a b, a < m → b < m + 1 → cg (a50 (a * (m + 1) + b)).toInt (mx na tg sh u m a b) := by
  intro a b ha hb
  have h1 := (h a b ha (by omega)).2
  unfold wX at h1
  unfold mx
  by_cases e : b < m
  · rw [if_pos e, if_pos e] at h1
    rw [if_pos e]
    exact h1
  · rw [if_neg e] at h1 ⊢
    exact h1
theorem rkQ_of {n : Nat} {U : Nat → Bool} {r41 a41 a43 a44 : Nat → Int32} (h : wJ U r41 n a41 a43 a44) : rkQ n U (fun b => (a43 b).toInt.toNat) a43 a44 := by
  obtain ⟨h1, h2, h3, h4⟩ := h
  refine ⟨fun b hb => ?_, h4, fun i hi hU => ?_⟩
  · obtain ⟨i, i1, i2, i3⟩ := cn_inv U n b hb
    have h5 := h3 i i1 i2
    rw [i3] at h5
    have e : (a43 b).toInt.toNat = i := by omega
    dsimp only
    rw [e]
    exact ⟨h5, i1, i2, i3⟩
  · have h5 := h3 i hi hU
    dsimp only
    omega
theorem s2_write (F : Nat) (hF : 50000 ≤ F) {n : Nat} (hn : n ≤ 200) {fr na : Nat → Nat} {tg : Nat → Nat → Nat} {sh : Nat → Nat → Int} {r32 r36 r37 r38 r39 r41 r43 r44 r45 r50 : Nat → Int32} (h2 : (r32 2).toInt = (n : Nat)) (hA : cA n fr na tg r37 r38) (hs : ∀ i, i < n → ∀ k, k < na i → (r39 (fr i + k)).toInt = sh i k ∧ 1 ≤ sh i k ∧ sh i k ≤ 60) :
    sp (fnX2_write F r32 r36 r37 r38 r39 r41 r43 r44 r45 r50) (fun e => ∃ u, rkQ n (uK r36 na) u e.2.1 e.2.2.1 ∧ (∀ k, k ≠ 6 → e.1 k = r41 k) ∧ (e.1 6).toInt = (cn (uK r36 na) n : Nat) ∧ (∀ a, a < cn (uK r36 na) n → (e.2.2.2.1 a).toInt = ((a * (cn (uK r36 na) n + 1) : Nat) : Int)) ∧ wA na tg sh u (cn (uK r36 na) n) (cn (uK r36 na) n) 0 e.2.2.2.2) := by
  have e0 : (0 : Int32).toInt = 0 := rfl
  have e1 : (1 : Int32).toInt = 1 := rfl
  unfold fnX2_write
  refine sp_bind (s2_wr1 F hF hn h2 hA) ?_
  rintro ⟨a41, a43, a44⟩ hJ
  dsimp only at hJ
  refine sp_u2 (sp_u2 ?_)
  have hml := cn_le (uK r36 na) n
  have hrk := rkQ_of hJ
  obtain ⟨j1, j2, j3, j4⟩ := hJ
  generalize hu : (fun b => (a43 b).toInt.toNat) = u at hrk
  generalize hmm : cn (uK r36 na) n = m at *
  have g1 : m * (m + 1) ≤ 200 * 201 := Nat.mul_le_mul (by omega) (by omega)
  have s1 : (a41 6 + 1).toInt = ((m + 1 : Nat) : Int) := by rw [i_add (by omega) (by omega), j2, e1]; omega
  have s2 : (a41 6).toInt * (a41 6 + 1).toInt = ((m * (m + 1) : Nat) : Int) := by rw [j2, s1]; exact (Int.natCast_mul m (m + 1)).symm
  have s3 : (a41 6 * (a41 6 + 1)).toInt = ((m * (m + 1) : Nat) : Int) := by rw [i_mul (by rw [s2]; omega) (by rw [s2]; omega), s2]
  refine sp_bind (s_fill50 F hF r50 s3 (by omega)) (fun o23 h23 => ?_)
  have hk1 := hrk.1
  rw [hmm] at hk1
  refine sp_bind (s2_wr2 F hF (by omega) (u := u) j2 (fun b hb => (hk1 b hb).1) h23) ?_
  rintro ⟨a45, a50⟩ hD
  dsimp only at hD
  refine sp_u2 ?_
  have hD1 : ∀ a, a < cn (uK r36 na) n → (a45 a).toInt = ((a * (cn (uK r36 na) n + 1) : Nat) : Int) := by rw [hmm]; exact hD.1
  have hw0 : wA na tg sh u m 0 0 a50 := by
    intro a b ha hb
    rw [hD.2 a b ha hb, if_pos ha]
    unfold wX
    by_cases q1 : b < m
    · have z0 : (if b < 0 then na (u b) else if b = 0 then 0 else 0) = 0 := by rw [if_neg (Nat.not_lt_zero b)]; split <;> rfl
      rw [if_pos q1, z0]
      show fd _ ∧ cg _ ((if a = b then 1 else 0) - 0)
      by_cases q2 : b = a
      · rw [if_pos q2, if_pos q2.symm]; exact ⟨⟨by omega, by omega⟩, cg_rf _⟩
      · rw [if_neg q2, if_neg (show ¬ a = b from fun z => q2 z.symm), if_neg (show ¬ b = m by omega)]; exact ⟨⟨by omega, by omega⟩, cg_rf _⟩
    · rw [if_neg q1, if_neg (by omega), if_pos (by omega)]
      refine ⟨?_, cg_rf _⟩
      split
      · exact ⟨by omega, by omega⟩
      · exact ⟨by omega, by omega⟩
  refine sp_bind (sp_cnt (fun s : Int32 × (Nat → Int32) => s.1) m (by omega) (fun r s => wA na tg sh u m r 0 s.2) (Q := fun e : Nat → Int32 => wA na tg sh u m m 0 e) ?_ F 0 _ (by omega) e0 hw0 (by omega)) (fun c hc => sp_some ⟨u, hrk, j1, j2, hD.1, hc⟩)
  rintro r ⟨x, c50⟩ hi hx hcx hx1 hJ
  refine sp_u2 ?_
  dsimp only at hx hcx hx1 hJ
  unfold bdX2_write_182
  refine sp_ite (fun hz => sp_some ?_) (fun hz => ?_)
  · have := i_le.mp hz
    have : r = m := by omega
    subst this
    exact hJ
  · have hz2 : ¬ (a41 6).toInt ≤ x.toInt := fun z => hz (i_le.mpr z)
    have hrm : r < cn (uK r36 na) n := by omega
    have hJ' : wA na tg sh u (cn (uK r36 na) n) r 0 c50 := by rw [hmm]; exact hJ
    refine sp_bind (s2_wrArcs F hF hn hA hs hrk hD1 hx hrm hJ') (fun o ho => sp_some ⟨by omega, rfl, ?_⟩)
    rw [hmm] at ho
    exact ho
