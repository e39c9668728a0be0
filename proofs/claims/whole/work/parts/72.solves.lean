/-! ===== the reference solves; both ===== -/
theorem s11_solvesNew (F : Nat) (hF : 50000 ≤ F) {n : Nat} (hn : n ≤ 200) {na : Nat → Nat} {tg : Nat → Nat → Nat} {sh : Nat → Nat → Int} {r36 r71 r83 r84 r85 r86 r88 : Nat → Int32} {q89 q90 q97 : Nat → Int64} (h24 : (r71 24).toInt = (n : Nat)) (hA : rA n na tg r83 r84) (ho : odQ q97) (hs : ∀ i, i < n → ∀ k, k < na i → (r85 (10 * i + k)).toInt = sh i k ∧ 1 ≤ sh i k ∧ sh i k ≤ 60) (hl : ∀ t, t < n → (¬ r86 t = 0 ↔ r36 t = 0)) (h22 : r71 22 = 0) :
    sp (fnX11_solves F r71 r83 r84 r85 r86 r88 q89 q90 q97) (fun o => o.2.1 22 = 1 ∧ o.2.1 23 = o.1 ∧ (∀ k, k ≠ 22 → k ≠ 23 → k ≠ 38 → o.2.1 k = r71 k) ∧ ((o.1 = 1 ∧ (∀ t, t < n → fd (o.2.2.2.2 t).toInt ∧ (¬ r36 t = 0 → (o.2.2.2.2 t).toInt = 0)) ∧ ∀ e H, slv n na tg sh (sS r36) e H → ∀ t, t < n → r36 t = 0 → cg (H t) ((o.2.2.2.2 t).toInt * e)) ∨ (o.1 = 0 ∧ kr n na tg sh (sS r36)))) := by
  have e0 : (0 : Int32).toInt = 0 := rfl
  have l0 : (0 : Int64).toInt = 0 := rfl
  unfold fnX11_solves
  refine sp_pos h22 ?_
  refine sp_bind (s11_laysGrid F hF hn (r71 := upd r71 22 1) (r88 := r88) (q89 := q89) (by rw [upd_ne (by decide)]; exact h24) hA ho hs hl) ?_
  rintro ⟨a71, a88, a89⟩ ⟨u, w1, w2, w3, w4⟩
  dsimp only at w1 w2 w3 w4 ⊢
  have hml := cn_le (sS r36) n
  have hM := gA_mx w4
  have hun : unk n na (sS r36) (sS r36) u := ⟨w1.2.2, fun i _ h => h, fun i _ h1 _ => h1⟩
  have hsi : siQ (cn (sS r36) n) (gM (cn (sS r36) n) a89) 0 a89 := ⟨fun a b ha hb => (w4 a b ha hb).1, fun x => Iff.rfl, fun j hj => absurd hj (Nat.not_lt_zero j)⟩
  refine sp_bind (s11_simple F hF (by omega) w3 hsi) ?_
  rintro ⟨o12, b89⟩ hq
  dsimp only at hq ⊢
  have hbb : mj_bb o12 = true := by rcases hq with ⟨rfl, -⟩ | ⟨rfl, -⟩ <;> decide
  have g24 : (upd a71 23 o12 24).toInt = (n : Nat) := by rw [upd_ne (by decide), w2 24 (by decide), upd_ne (by decide)]; exact h24
  have g23 : upd a71 23 o12 23 = o12 := upd_at
  refine sp_pos hbb ?_
  refine sp_bind (sp_cnt (fun s : Int32 × (Nat → Int64) => s.1) n (by omega) (fun i s => ∀ t, t < i → s.2 t = if o12 = 0 then 0 else if r86 t = 0 then 0 else b89 (201 * cn (sS r36) t + 200)) (Q := fun e : Nat → Int64 => ∀ t, t < n → e t = if o12 = 0 then 0 else if r86 t = 0 then 0 else b89 (201 * cn (sS r36) t + 200)) ?_ F 0 _ (by omega) e0 (fun t ht => absurd ht (Nat.not_lt_zero t)) (by omega)) ?_
  · rintro i ⟨x, a90⟩ hi hx hcx hxs hJ
    refine sp_u2 ?_
    dsimp only at hx hcx hxs hJ
    unfold bdX11_solves_31
    refine sp_ite (fun hw => sp_some ?_) (fun hw => ?_)
    · have := i_le.mp hw
      have : i = n := by omega
      subst this
      exact hJ
    · have hw2 : ¬ (upd a71 23 o12 24).toInt ≤ x.toInt := fun z => hw (i_le.mpr z)
      have hin : i < n := by omega
      have hib : mj_ib x 200 = true := mj_ib_of (by omega) (by omega)
      have step : ∀ w : Int64, (w = if o12 = 0 then 0 else if r86 i = 0 then 0 else b89 (201 * cn (sS r36) i + 200)) → ∀ t, t < i + 1 → vp_updL a90 i w t = if o12 = 0 then 0 else if r86 t = 0 then 0 else b89 (201 * cn (sS r36) t + 200) := by
        intro w hw t ht
        by_cases e : t = i
        · rw [e, updL_at]; exact hw
        · rw [updL_ne e]; exact hJ t (by omega)
      rw [g23, hcx]
      refine sp_ite (fun hq1 => sp_pos hib (sp_some ⟨hin, rfl, step _ (by rw [if_pos hq1])⟩)) (fun hq1 => sp_pos hib ?_)
      refine sp_ite (fun hq2 => sp_pos hib (sp_some ⟨hin, rfl, step _ (by rw [if_neg hq1, if_pos hq2])⟩)) (fun hq2 => sp_pos hib ?_)
      have hS : sS r36 i = true := sS_t.mpr ((hl i hin).mp hq2)
      have ki := w1.2.1 i hin
      rw [if_pos hS] at ki
      have hri := cn_lt (sS r36) hin hS
      obtain ⟨c1, hib1⟩ := ix201 ki (show (200 : Int32).toInt = ((200 : Nat) : Int) from rfl) (show cn (sS r36) i < 200 by omega) (show 200 < 201 by omega)
      refine sp_pos hib1 (sp_pos hib (sp_some ⟨hin, rfl, step _ ?_⟩))
      rw [c1, if_neg hq1, if_neg hq2]
  · intro c90 hc
    refine sp_pos hbb (sp_some ⟨?_, g23, fun k k1 k2 k3 => ?_, ?_⟩)
    · dsimp only
      rw [upd_ne (by decide), w2 22 (by decide), upd_at]
    · dsimp only
      rw [upd_ne k2, w2 k k3, upd_ne k1]
    · dsimp only
      rcases hq with ⟨rfl, s1, s2, s3⟩ | ⟨rfl, v, d, d1, d2, d3, d4⟩
      · refine Or.inl ⟨rfl, fun t ht => ?_, fun e H hH t ht hr => ?_⟩
        · rw [hc t ht, if_neg (show ¬ (1 : Int32) = 0 from by decide)]
          by_cases q : r86 t = 0
          · rw [if_pos q, l0]
            exact ⟨⟨by omega, by omega⟩, fun _ => rfl⟩
          · have hS : sS r36 t = true := sS_t.mpr ((hl t ht).mp q)
            have hlt := cn_lt (sS r36) ht hS
            have h9 := s1 (cn (sS r36) t) (cn (sS r36) n) hlt (Nat.le_refl _)
            have elm : lc (cn (sS r36) n) (cn (sS r36) n) = 200 := by unfold lc; rw [if_neg (Nat.lt_irrefl _)]
            unfold gM at h9
            rw [elm] at h9
            rw [if_neg q]
            exact ⟨h9, fun z => absurd ((hl t ht).mp q) z⟩
        · have hS : sS r36 t = true := sS_t.mpr hr
          have h9 := one_of hun hM s2 s3 hH t ht hS
          have elm : lc (cn (sS r36) n) (cn (sS r36) n) = 200 := by unfold lc; rw [if_neg (Nat.lt_irrefl _)]
          unfold gM at h9
          rw [elm] at h9
          rw [hc t ht, if_neg (show ¬ (1 : Int32) = 0 from by decide), if_neg ((hl t ht).mpr hr)]
          exact h9
      · exact Or.inr ⟨rfl, kr_of hun hM d1 d2 d3 d4⟩
/-- what the two have of the solution -/
def eQ (n : Nat) (r32 r33 r41 r42 r71 : Nat → Int32) (q90 : Nat → Int64) : Prop := r41 5 = r71 23 ∧ (r41 5 = 0 ∨ (r41 5 = 1 ∧ suQ n r32 r33 r42 r41 ∧ ∀ t, t < n → fd (r42 t).toInt ∧ (q90 t).toInt = (r42 t).toInt))
theorem s2_solve (F : Nat) (hF : 50000 ≤ F) {C : Int} {n : Nat} {fr na : Nat → Nat} {tg : Nat → Nat → Nat} {sh : Nat → Nat → Int} {r32 r33 r34 r35 r36 r37 r38 r39 r71 r80 r81 r82 r83 r84 r85 r86 r41 r42 r43 r44 r45 r46 r50 r88 : Nat → Int32} {q89 q90 q97 : Nat → Int64} (hG : gG C n fr na tg sh r32 r33 r34 r35 r36 r37 r38 r39 r71 r80 r81 r82 r83 r84 r85 r86) (ho : odQ q97) (h22 : r71 22 = 0 ∨ r71 22 = 1) (hv : r41 4 = r32 0 ↔ r71 22 = 1) (hc : r41 4 = r32 0 → eQ n r32 r33 r41 r42 r71 q90) :
    sp2 (fnX2_solve F r32 r33 r36 r37 r38 r39 r41 r42 r43 r44 r45 r46 r50) (fnX11_solves F r71 r83 r84 r85 r86 r88 q89 q90 q97) (fun a b => a.1 = b.1 ∧ (a.1 = 0 ∨ a.1 = 1) ∧ a.2.1 4 = r32 0 ∧ a.2.1 5 = a.1 ∧ b.2.1 22 = 1 ∧ (∀ k, k ≠ 22 → k ≠ 23 → k ≠ 38 → b.2.1 k = r71 k) ∧ eQ n r32 r33 a.2.1 a.2.2.1 b.2.1 b.2.2.2.2) := by
  obtain ⟨⟨g1, g2, g3, g4⟩, g5, g6, g7, gA, gR, gH, g8, g9, g10, g11, g12⟩ := hG
  rcases h22 with h22 | h22
  · have hv' : ¬ r41 4 = r32 0 := fun z => absurd (h22.symm.trans (hv.mp z)) (by decide)
    obtain ⟨a, ha, a1, a2, a3⟩ := s2_solveNew F hF g2 (r33 := r33) (r36 := r36) (r42 := r42) (r43 := r43) (r44 := r44) (r45 := r45) (r46 := r46) (r50 := r50) g3 gA (fun i hi k hk => by have := (gH i hi).1 k hk; exact ⟨this.1, this.2.2.1, this.2.2.2⟩) hv'
    obtain ⟨b, hb, b1, b2, b3, b4⟩ := s11_solvesNew F hF g2 (r36 := r36) (r88 := r88) (q89 := q89) (q90 := q90) g4 gR ho (fun i hi k hk => by have := (gH i hi).1 k hk; exact ⟨this.2.1, this.2.2.1, this.2.2.2⟩) (fun t ht => (g12 t ht).2.2.2) h22
    refine ⟨a, b, ha, hb, ?_⟩
    rcases a3 with ⟨x1, x2, x3, x4⟩ | ⟨x1, x2⟩
    · rcases b4 with ⟨y1, y2, y3⟩ | ⟨y1, y2⟩
      · refine ⟨by rw [x1, y1], Or.inr x1, a1, a2, b1, b3, ?_, Or.inr ⟨by rw [a2, x1], x4, fun t ht => ⟨(x3.1 t ht).1, ?_⟩⟩⟩
        · rw [a2, b2, x1, y1]
        · obtain ⟨f1, f2⟩ := x3.1 t ht
          obtain ⟨f3, f4⟩ := y2 t ht
          by_cases q : r36 t = 0
          · have h9 := y3 1 _ x3.2 t ht q
            rw [Int.mul_one] at h9
            exact (cg_eq h9 f1.1 f1.2 f3.1 f3.2).symm
          · rw [f4 q, f2 q]; rfl
      · exact absurd y2 x2
    · rcases b4 with ⟨y1, y2, y3⟩ | ⟨y1, y2⟩
      · exfalso
        obtain ⟨H, z1, t, t1, t2, t3⟩ := x2
        have h9 := y3 0 H z1 t t1 (sS_t.mp t2)
        rw [Int.mul_zero] at h9
        exact t3 h9
      · exact ⟨by rw [x1, y1], Or.inl x1, a1, a2, b1, b3, by rw [a2, b2, x1, y1], Or.inl (by rw [a2, x1])⟩
  · have hv' := hv.mpr h22
    have h9 := hc hv'
    have h5 : r41 5 = 0 ∨ r41 5 = 1 := by
      rcases h9.2 with z | z
      · exact Or.inl z
      · exact Or.inr z.1
    have hbb : mj_bb (r41 5) = true := by rcases h5 with z | z <;> rw [z] <;> decide
    have hn22 : ¬ r71 22 = 0 := by rw [h22]; decide
    refine ⟨(r41 5, r41, r42, r43, r44, r45, r46, r50), (r71 23, r71, r88, q89, q90), ?_, ?_, h9.1, h5, hv', rfl, h22, fun _ _ _ _ => rfl, h9⟩
    · unfold fnX2_solve
      rw [if_pos hv', if_pos hbb]
    · unfold fnX11_solves
      rw [if_neg hn22, if_pos (by rw [← h9.1]; exact hbb)]
