/-! ===== told ===== -/
def rwk {α : Type} (I : Nat → Nat → α) (a : Nat) : List (Nat × (Nat → α)) → Prop
  | [] => True
  | q :: l => (a = q.1 → q.2 = I a) ∧ rwk I a l
theorem rw_k {α : Type} (I : Nat → Nat → α) (l : List (Nat × (Nat → α))) (a : Nat) (h : rwk I a l) : mj_rows I l a = I a := by
  induction l with
  | nil => rfl
  | cons q l ih =>
    show (if a = q.1 then q.2 else mj_rows I l a) = I a
    by_cases e : a = q.1
    · rw [if_pos e]; exact h.1 e
    · rw [if_neg e]; exact ih h.2
/-- what a call on the states wants of the bond -/
def kG (F : Nat) (Inv : Nat → mj_IT → mj_LT → Prop) : Prop := kQ Inv ∧
  (∀ j I L I' L', j < 512 → Inv j I L → frG F I I' → frL L L' → rfQ I' → Inv (j + 1) I' L') ∧
  (∀ j I L, j < 512 → Inv j I L → gQ F I ∧ tens (I 87) ∧ I 2 0 = I 71 9 ∧ I 29 0 = I 71 17)
theorem q_told (F : Nat) (hF : 2100 ≤ F) {I : mj_IT} (h4 : I 71 4 = I 18 0) (h9 : I 2 0 = I 71 9) (h17 : I 29 0 = I 71 17) {x1 : Int32} (hx : 0 ≤ x1.toInt ∧ x1.toInt ≤ 7) {a : T9} {b : T8} (hl : lQ I a b) (ha : exG F I = some a) (hb : lyG F I (rL I (upd (I 71) 0 0)) = some b) (hd : (gX I a b ∧ a.1 6 = 0 ∧ b.1 21 = 0) ∨ (a.1 6 = 1 ∧ b.1 21 = 1)) :
    ∃ (v : Int32) (c : T9), (c = rG I ∨ c = a) ∧ fnX10_told F (I 1) (I 2) (I 18) (I 19) (I 20) (I 21) (I 22) (I 23) (I 24) (I 25) (I 26) (I 29) (I 32) (I 33) (I 34) (I 35) (I 36) (I 37) (I 38) (I 39) (I 40) (I 70) x1 = some (.inl (v, c.1, c.2.1, c.2.2.1, c.2.2.2.1, c.2.2.2.2.1, c.2.2.2.2.2.1, c.2.2.2.2.2.2.1, c.2.2.2.2.2.2.2.1, c.2.2.2.2.2.2.2.2, I 70)) ∧ fnX11_told F (I 71) (I 72) (I 73) (I 75) (I 80) (I 81) (I 82) (I 83) (I 84) (I 85) (I 86) (I 87) x1 = some (v, b.1, I 72, b.2) := by
  have e0 : (0 : Int32).toInt = 0 := rfl
  have e1 : (1 : Int32).toInt = 1 := rfl
  have e2 : (2 : Int32).toInt = 2 := rfl
  have e3 : (3 : Int32).toInt = 3 := rfl
  have e4 : (4 : Int32).toInt = 4 := rfl
  have e5 : (5 : Int32).toInt = 5 := rfl
  have e6 : (6 : Int32).toInt = 6 := rfl
  have e7 : (7 : Int32).toInt = 7 := rfl
  obtain ⟨q0, q1, q2, q3, q4, q5, q6⟩ := id hl
  have R : fnX11_told F (I 71) (I 72) (I 73) (I 75) (I 80) (I 81) (I 82) (I 83) (I 84) (I 85) (I 86) (I 87) x1 = (if x1 ≤ 0 then jnX11_told_48 F (I 73) (I 75) (I 87) x1 b.1 (I 72) b.2.1 b.2.2.1 b.2.2.2.1 b.2.2.2.2.1 b.2.2.2.2.2.1 b.2.2.2.2.2.2.1 b.2.2.2.2.2.2.2 else (if (6 : Int32) ≤ x1 then jnX11_told_48 F (I 73) (I 75) (I 87) x1 b.1 (I 72) b.2.1 b.2.2.1 b.2.2.2.1 b.2.2.2.2.1 b.2.2.2.2.2.1 b.2.2.2.2.2.2.1 b.2.2.2.2.2.2.2 else (if b.1 21 = 0 then jnX11_told_48 F (I 73) (I 75) (I 87) x1 b.1 (I 72) b.2.1 b.2.2.1 b.2.2.2.1 b.2.2.2.2.1 b.2.2.2.2.2.1 b.2.2.2.2.2.2.1 b.2.2.2.2.2.2.2 else some (-1, b.1, I 72, b.2)))) := by
    unfold fnX11_told
    rw [q_lies3_in F (a := 0) (b := 7) hx, Option.bind_some, q_fine F upd_at, Option.bind_some, if_neg (show ¬ (1 : Int32) = 0 from by decide)]
    change (lyG F I (rL I (upd (I 71) 0 0))).bind _ = _
    rw [hb]
    rfl
  have K : ∀ k, k ≠ 0 → k ≠ 20 → k ≠ 21 → k ≠ 24 → k ≠ 25 → k ≠ 26 → b.1 k = I 71 k := fun k k0 k1 k2 k3 k4 k5 => (q5 k k1 k2 k3 k4 k5).trans (upd_ne k0)
  by_cases c0 : x1 = 0
  · subst c0
    refine ⟨I 18 0, rG I, Or.inl rfl, ?_, ?_⟩
    · unfold fnX10_told
      rw [q_num_in F (I 70) (a := 0) (b := 7) hx]
      rfl
    · rw [R, if_pos (i_le.mpr (by rw [e0]; omega))]
      unfold jnX11_told_48
      rw [if_pos rfl, K 4 (by decide) (by decide) (by decide) (by decide) (by decide) (by decide), h4]
  have d0 : ¬ x1.toInt = 0 := fun z => c0 (i_eq.mpr (by rw [z, e0]))
  have g0 : ¬ x1 ≤ 0 := fun z => by have := i_le.mp z; omega
  by_cases c6 : x1 = 6
  · subst c6
    refine ⟨I 2 0, rG I, Or.inl rfl, ?_, ?_⟩
    · unfold fnX10_told
      rw [q_num_in F (I 70) (a := 0) (b := 7) hx]
      rfl
    · rw [R, if_neg g0, if_pos (i_le.mpr (by rw [e6]; omega))]
      unfold jnX11_told_48
      rw [if_neg (by decide), if_neg (by decide), if_neg (by decide), if_neg (by decide), if_neg (by decide), if_neg (by decide), if_pos rfl, K 9 (by decide) (by decide) (by decide) (by decide) (by decide) (by decide), h9]
  have d6 : ¬ x1.toInt = 6 := fun z => c6 (i_eq.mpr (by rw [z, e6]))
  by_cases c7 : x1 = 7
  · subst c7
    refine ⟨I 29 0, rG I, Or.inl rfl, ?_, ?_⟩
    · unfold fnX10_told
      rw [q_num_in F (I 70) (a := 0) (b := 7) hx]
      rfl
    · rw [R, if_neg g0, if_pos (i_le.mpr (by rw [e6, e7]; omega))]
      unfold jnX11_told_48
      rw [if_neg (by decide), if_neg (by decide), if_neg (by decide), if_neg (by decide), if_neg (by decide), if_neg (by decide), if_neg (by decide), K 17 (by decide) (by decide) (by decide) (by decide) (by decide) (by decide), h17]
  have d7 : ¬ x1.toInt = 7 := fun z => c7 (i_eq.mpr (by rw [z, e7]))
  have g6 : ¬ (6 : Int32) ≤ x1 := fun z => by have := i_le.mp z; omega
  have X : fnX10_told F (I 1) (I 2) (I 18) (I 19) (I 20) (I 21) (I 22) (I 23) (I 24) (I 25) (I 26) (I 29) (I 32) (I 33) (I 34) (I 35) (I 36) (I 37) (I 38) (I 39) (I 40) (I 70) x1 = (if a.1 6 = 0 then (if x1 = (1 : Int32) then some (.inl (a.1 2, a.1, a.2.1, a.2.2.1, a.2.2.2.1, a.2.2.2.2.1, a.2.2.2.2.2.1, a.2.2.2.2.2.2.1, a.2.2.2.2.2.2.2.1, a.2.2.2.2.2.2.2.2, I 70)) else (if x1 = (2 : Int32) then some (.inl (a.1 4, a.1, a.2.1, a.2.2.1, a.2.2.2.1, a.2.2.2.2.1, a.2.2.2.2.2.1, a.2.2.2.2.2.2.1, a.2.2.2.2.2.2.2.1, a.2.2.2.2.2.2.2.2, I 70)) else (if x1 = (3 : Int32) then some (.inl (a.1 5, a.1, a.2.1, a.2.2.1, a.2.2.2.1, a.2.2.2.2.1, a.2.2.2.2.2.1, a.2.2.2.2.2.2.1, a.2.2.2.2.2.2.2.1, a.2.2.2.2.2.2.2.2, I 70)) else (if x1 = (4 : Int32) then some (.inl (a.1 3, a.1, a.2.1, a.2.2.1, a.2.2.2.1, a.2.2.2.2.1, a.2.2.2.2.2.1, a.2.2.2.2.2.2.1, a.2.2.2.2.2.2.2.1, a.2.2.2.2.2.2.2.2, I 70)) else (fnX4_greatestLevel F a.1 a.2.2.2.1).bind (fun o8 => some (.inl (o8, a.1, a.2.1, a.2.2.1, a.2.2.2.1, a.2.2.2.2.1, a.2.2.2.2.2.1, a.2.2.2.2.2.2.1, a.2.2.2.2.2.2.2.1, a.2.2.2.2.2.2.2.2, I 70))))))) else some (.inl (-1, a.1, a.2.1, a.2.2.1, a.2.2.2.1, a.2.2.2.2.1, a.2.2.2.2.2.1, a.2.2.2.2.2.2.1, a.2.2.2.2.2.2.2.1, a.2.2.2.2.2.2.2.2, I 70))) := by
    unfold fnX10_told
    rw [q_num_in F (I 70) (a := 0) (b := 7) hx, Option.bind_some, Sum.elim_inl, if_neg c0, if_neg c6, if_neg c7]
    change (exG F I).bind _ = _
    rw [ha]
    rfl
  rcases hd with ⟨⟨n, fr, na, tg, sh, hG⟩, m1, m2⟩ | ⟨m1, m2⟩
  · obtain ⟨⟨y1, y2, y3, y4⟩, ⟨z1, z2, z3, z4, z5, z6⟩, gs, gd, gc, gr, gh, g25, gce, gct, g37, gt⟩ := id hG
    rw [if_pos m1] at X
    rw [if_neg g0, if_neg g6, if_pos m2] at R
    unfold jnX11_told_48 at R
    rw [if_neg c0] at R
    by_cases c1 : x1 = 1
    · refine ⟨a.1 2, a, Or.inr rfl, ?_, ?_⟩
      · rw [X, if_pos c1]
      · rw [R, if_pos c1, i_eq.mpr (y3.trans y4.symm)]
    by_cases c2 : x1 = 2
    · obtain ⟨w, w1, w2⟩ := s11_cEnd F (by omega) y2 (r33 := a.2.1) (c := a.1 7) y4 (fun s hs => (gs s hs).1) (i_eq.mpr (z3.trans z4.symm))
      refine ⟨a.1 4, a, Or.inr rfl, ?_, ?_⟩
      · rw [X, if_neg c1, if_pos c2]
      · rw [R, if_neg c1, if_pos c2, w1, i_eq.mpr (gce.trans w2.symm)]
        rfl
    by_cases c3 : x1 = 3
    · obtain ⟨w, w1, w2⟩ := s11_cTrap F (by omega) y2 (r36 := a.2.2.2.2.1) (r86 := b.2.2.2.2.2.2.2) y4 (fun s hs => (gt s hs).2.2.2)
      refine ⟨a.1 5, a, Or.inr rfl, ?_, ?_⟩
      · rw [X, if_neg c1, if_neg c2, if_pos c3]
      · rw [R, if_neg c1, if_neg c2, if_pos c3, w1, i_eq.mpr (gct.trans w2.symm)]
        rfl
    by_cases c4 : x1 = 4
    · refine ⟨a.1 3, a, Or.inr rfl, ?_, ?_⟩
      · rw [X, if_neg c1, if_neg c2, if_neg c3, if_pos c4]
      · rw [R, if_neg c1, if_neg c2, if_neg c3, if_pos c4, g25]
    · have c5 : x1 = 5 := i_eq.mpr (by
        have d1 : ¬ x1.toInt = 1 := fun z => c1 (i_eq.mpr (by rw [z, e1]))
        have d2 : ¬ x1.toInt = 2 := fun z => c2 (i_eq.mpr (by rw [z, e2]))
        have d3 : ¬ x1.toInt = 3 := fun z => c3 (i_eq.mpr (by rw [z, e3]))
        have d4 : ¬ x1.toInt = 4 := fun z => c4 (i_eq.mpr (by rw [z, e4]))
        omega)
      have s1 : (a.1 2 - 1).toInt = ((n - 1 : Nat) : Int) := by rw [i_sub (by omega) (by omega), y3, e1]; omega
      have s2 : (b.1 24 - 1).toInt = ((n - 1 : Nat) : Int) := by rw [i_sub (by omega) (by omega), y4, e1]; omega
      have t1 : (a.1 2 - 1).toNatClampNeg = n - 1 := by rw [i_cl, s1]; rfl
      have t2 : (b.1 24 - 1).toNatClampNeg = n - 1 := by rw [i_cl, s2]; rfl
      refine ⟨a.2.2.2.1 (n - 1), a, Or.inr rfl, ?_, ?_⟩
      · rw [X, if_neg c1, if_neg c2, if_neg c3, if_neg c4]
        unfold fnX4_greatestLevel
        rw [if_neg (fun z => by have := i_le.mp z; omega), if_pos (mj_ib_of (by omega) (by omega)), t1]
        rfl
      · rw [R, if_neg c1, if_neg c2, if_neg c3, if_neg c4, if_pos c5, if_pos (mj_ib_of (by omega) (by omega)), t2, (gs (n - 1) (by omega)).2.2.1]
  · refine ⟨-1, a, Or.inr rfl, ?_, ?_⟩
    · rw [X, if_neg (by rw [m1]; decide)]
    · rw [R, if_neg g0, if_neg g6, if_neg (by rw [m2]; decide)]
theorem b_told (F : Nat) (hF : 2100 ≤ F) {Inv : Nat → mj_IT → mj_LT → Prop} (hK : kG F Inv) : pb_told F Inv := by
  intro j hj I L hI x1
  obtain ⟨hr, hp, h4, hv, hf⟩ := hK.1.2 j I L hj hI
  obtain ⟨hQ, ht, h9, h17⟩ := hK.2.2 j I L hj hI
  by_cases hx : 0 ≤ x1.toInt ∧ x1.toInt ≤ 7
  · obtain ⟨a, b, hl, ha, hb, b0, hd⟩ := q_few (gQ_go F hF hp h4 ht hv hQ)
    obtain ⟨v, c, hc, q1, q2⟩ := q_told F hF h4 h9 h17 hx hl ha hb (hd.elim (fun z => Or.inl ⟨z.1, z.2.1, z.2.2.1⟩) (fun z => Or.inr ⟨z.1, z.2.1⟩))
    refine ⟨.inl (v, mj_rows I [(1, I 1), (2, I 2), (18, I 18), (19, I 19), (20, I 20), (21, I 21), (22, I 22), (23, I 23), (24, I 24), (25, I 25), (26, I 26), (29, I 29), (32, c.1), (33, c.2.1), (34, c.2.2.1), (35, c.2.2.2.1), (36, c.2.2.2.2.1), (37, c.2.2.2.2.2.1), (38, c.2.2.2.2.2.2.1), (39, c.2.2.2.2.2.2.2.1), (40, c.2.2.2.2.2.2.2.2), (70, I 70)], L), v, 0, mj_rows (mj_rows I [(1, I 1), (2, I 2), (18, I 18), (19, I 19), (20, I 20), (21, I 21), (22, I 22), (23, I 23), (24, I 24), (25, I 25), (26, I 26), (29, I 29), (32, c.1), (33, c.2.1), (34, c.2.2.1), (35, c.2.2.2.1), (36, c.2.2.2.2.1), (37, c.2.2.2.2.2.1), (38, c.2.2.2.2.2.2.1), (39, c.2.2.2.2.2.2.2.1), (40, c.2.2.2.2.2.2.2.2), (70, I 70)]) [(71, b.1), (72, I 72), (73, I 73), (75, I 75), (80, b.2.1), (81, b.2.2.1), (82, b.2.2.2.1), (83, b.2.2.2.2.1), (84, b.2.2.2.2.2.1), (85, b.2.2.2.2.2.2.1), (86, b.2.2.2.2.2.2.2), (87, I 87)], mj_rows (mj_rows (mj_rows I [(1, I 1), (2, I 2), (18, I 18), (19, I 19), (20, I 20), (21, I 21), (22, I 22), (23, I 23), (24, I 24), (25, I 25), (26, I 26), (29, I 29), (32, c.1), (33, c.2.1), (34, c.2.2.1), (35, c.2.2.2.1), (36, c.2.2.2.2.1), (37, c.2.2.2.2.2.1), (38, c.2.2.2.2.2.2.1), (39, c.2.2.2.2.2.2.2.1), (40, c.2.2.2.2.2.2.2.2), (70, I 70)]) [(71, b.1), (72, I 72), (73, I 73), (75, I 75), (80, b.2.1), (81, b.2.2.1), (82, b.2.2.2.1), (83, b.2.2.2.2.1), (84, b.2.2.2.2.2.1), (85, b.2.2.2.2.2.2.1), (86, b.2.2.2.2.2.2.2), (87, I 87)]) [(71, b.1)], va_up L 98 (vp_updL (L 98) 0 v.toInt64), va_up L 98 (vp_updL (L 98) 0 v.toInt64), ?_, ?_, ?_, ?_, rfl, fun _ => rfl, ?_⟩
    · unfold stX10_told; rw [q1]; rfl
    · intro q hq; cases hq
    · show (fnX11_told F (I 71) (I 72) (I 73) (I 75) (I 80) (I 81) (I 82) (I 83) (I 84) (I 85) (I 86) (I 87) x1).map _ = _
      rw [q2]; rfl
    · show some (b.1 0, _, _) = _
      rw [b0]; rfl
    · refine hK.2.1 j I L _ _ hj hI ?_ (frL_up L _) hr
      rcases hc with hc | hc
      · subst hc
        refine fr_ref hQ hl hb (fun x x2 x3 => ?_) rfl (fun k hk => rfl)
        rw [rw_k _ _ x (by refine ⟨fun z => ?_, trivial⟩ <;> (dsimp only at z; first | (exfalso; omega) | (subst z; rfl))), rw_k _ _ x (by refine ⟨fun z => ?_, fun z => ?_, fun z => ?_, fun z => ?_, fun z => ?_, fun z => ?_, fun z => ?_, fun z => ?_, fun z => ?_, fun z => ?_, fun z => ?_, fun z => ?_, trivial⟩ <;> (dsimp only at z; first | (exfalso; omega) | (subst z; rfl))), rw_k _ _ x (by refine ⟨fun z => ?_, fun z => ?_, fun z => ?_, fun z => ?_, fun z => ?_, fun z => ?_, fun z => ?_, fun z => ?_, fun z => ?_, fun z => ?_, fun z => ?_, fun z => ?_, fun z => ?_, fun z => ?_, fun z => ?_, fun z => ?_, fun z => ?_, fun z => ?_, fun z => ?_, fun z => ?_, fun z => ?_, fun z => ?_, trivial⟩ <;> (dsimp only at z; first | (exfalso; omega) | (subst z; rfl)))]
      · subst hc
        refine fr_go hQ.1 (fun z => (hQ.2.2.1 z).1) hl (fun x x1 x2 x3 => ?_) rfl rfl (fun k hk => rfl)
        rw [rw_k _ _ x (by refine ⟨fun z => ?_, trivial⟩ <;> (dsimp only at z; first | (exfalso; omega) | (subst z; rfl))), rw_k _ _ x (by refine ⟨fun z => ?_, fun z => ?_, fun z => ?_, fun z => ?_, fun z => ?_, fun z => ?_, fun z => ?_, fun z => ?_, fun z => ?_, fun z => ?_, fun z => ?_, fun z => ?_, trivial⟩ <;> (dsimp only at z; first | (exfalso; omega) | (subst z; rfl))), rw_k _ _ x (by refine ⟨fun z => ?_, fun z => ?_, fun z => ?_, fun z => ?_, fun z => ?_, fun z => ?_, fun z => ?_, fun z => ?_, fun z => ?_, fun z => ?_, fun z => ?_, fun z => ?_, fun z => ?_, fun z => ?_, fun z => ?_, fun z => ?_, fun z => ?_, fun z => ?_, fun z => ?_, fun z => ?_, fun z => ?_, fun z => ?_, trivial⟩ <;> (dsimp only at z; first | (exfalso; omega) | (subst z; rfl)))]
  · have q1 : fnX10_told F (I 1) (I 2) (I 18) (I 19) (I 20) (I 21) (I 22) (I 23) (I 24) (I 25) (I 26) (I 29) (I 32) (I 33) (I 34) (I 35) (I 36) (I 37) (I 38) (I 39) (I 40) (I 70) x1 = some (.inr (1, I 32, I 33, I 34, I 35, I 36, I 37, I 38, I 39, I 40, upd (I 70) 1 (I 70 1 + 1))) := by
      unfold fnX10_told
      rw [q_num_out F (I 70) (a := 0) (b := 7) hx]
      rfl
    have q2 : fnX11_told F (I 71) (I 72) (I 73) (I 75) (I 80) (I 81) (I 82) (I 83) (I 84) (I 85) (I 86) (I 87) x1 = some (0, upd (upd (I 71) 0 0) 0 1, upd (I 72) 1 (I 72 1 + 1), I 80, I 81, I 82, I 83, I 84, I 85, I 86) := by
      unfold fnX11_told
      rw [q_lies3_out F (a := 0) (b := 7) hx, Option.bind_some, q_fine0 F upd_at (show ¬ (1 : Int32) = 0 from by decide) (by decide), Option.bind_some, if_pos rfl]
      rfl
    refine ⟨.inr (1, mj_rows I [(1, I 1), (2, I 2), (18, I 18), (19, I 19), (20, I 20), (21, I 21), (22, I 22), (23, I 23), (24, I 24), (25, I 25), (26, I 26), (29, I 29), (32, I 32), (33, I 33), (34, I 34), (35, I 35), (36, I 36), (37, I 37), (38, I 38), (39, I 39), (40, I 40), (70, upd (I 70) 1 (I 70 1 + 1))], L), 0, 1, mj_rows (mj_rows I [(1, I 1), (2, I 2), (18, I 18), (19, I 19), (20, I 20), (21, I 21), (22, I 22), (23, I 23), (24, I 24), (25, I 25), (26, I 26), (29, I 29), (32, I 32), (33, I 33), (34, I 34), (35, I 35), (36, I 36), (37, I 37), (38, I 38), (39, I 39), (40, I 40), (70, upd (I 70) 1 (I 70 1 + 1))]) [(71, upd (upd (I 71) 0 0) 0 1), (72, upd (I 72) 1 (I 72 1 + 1)), (73, I 73), (75, I 75), (80, I 80), (81, I 81), (82, I 82), (83, I 83), (84, I 84), (85, I 85), (86, I 86), (87, I 87)], mj_rows (mj_rows (mj_rows I [(1, I 1), (2, I 2), (18, I 18), (19, I 19), (20, I 20), (21, I 21), (22, I 22), (23, I 23), (24, I 24), (25, I 25), (26, I 26), (29, I 29), (32, I 32), (33, I 33), (34, I 34), (35, I 35), (36, I 36), (37, I 37), (38, I 38), (39, I 39), (40, I 40), (70, upd (I 70) 1 (I 70 1 + 1))]) [(71, upd (upd (I 71) 0 0) 0 1), (72, upd (I 72) 1 (I 72 1 + 1)), (73, I 73), (75, I 75), (80, I 80), (81, I 81), (82, I 82), (83, I 83), (84, I 84), (85, I 85), (86, I 86), (87, I 87)]) [(71, upd (upd (I 71) 0 0) 0 1)], L, L, ?_, ?_, ?_, rfl, rfl, ?_, ?_⟩
    · unfold stX10_told; rw [q1]; rfl
    · intro q hq; cases hq; rfl
    · show (fnX11_told F (I 71) (I 72) (I 73) (I 75) (I 80) (I 81) (I 82) (I 83) (I 84) (I 85) (I 86) (I 87) x1).map _ = _
      rw [q2]; rfl
    · intro z; exact absurd z (show ¬ (1 : Int32) = 0 from by decide)
    · refine hK.1.1 j I L _ _ hj hI ⟨fun x x0 x1 x2 => ?_, fun k hk => ?_⟩ (fun _ _ => rfl) (rf_up hr (by decide))
      · rw [rw_k _ _ x (by refine ⟨fun z => ?_, trivial⟩ <;> (dsimp only at z; first | (exfalso; omega) | (subst z; rfl))), rw_k _ _ x (by refine ⟨fun z => ?_, fun z => ?_, fun z => ?_, fun z => ?_, fun z => ?_, fun z => ?_, fun z => ?_, fun z => ?_, fun z => ?_, fun z => ?_, fun z => ?_, fun z => ?_, trivial⟩ <;> (dsimp only at z; first | (exfalso; omega) | (subst z; rfl))), rw_k _ _ x (by refine ⟨fun z => ?_, fun z => ?_, fun z => ?_, fun z => ?_, fun z => ?_, fun z => ?_, fun z => ?_, fun z => ?_, fun z => ?_, fun z => ?_, fun z => ?_, fun z => ?_, fun z => ?_, fun z => ?_, fun z => ?_, fun z => ?_, fun z => ?_, fun z => ?_, fun z => ?_, fun z => ?_, fun z => ?_, fun z => ?_, trivial⟩ <;> (dsimp only at z; first | (exfalso; omega) | (subst z; rfl)))]
      · show upd (upd (I 71) 0 0) 0 1 k = I 71 k
        rw [upd_ne hk, upd_ne hk]
