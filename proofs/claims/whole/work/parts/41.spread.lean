/-! ===== within: the class ===== -/
def en_ (r33 : Nat → Int32) (c : Int32) (t : Nat) : Bool := decide (r33 t = c)
theorem s9_atEnd (F : Nat) (hF : 600 ≤ F) {n : Nat} (hn : n ≤ 200) {r32 r33 r52 : Nat → Int32} (h2 : (r32 2).toInt = (n : Nat)) {g : Nat → Int} (hg : ∀ t, t < n → (r52 t).toInt = g t ∧ fd (g t)) : sp (fnX9_atEnd F r32 r33 r52) (fun c => c.toInt = at_ n (en_ r33 (r32 7)) g % 998244353) := by
  have e0 : (0 : Int32).toInt = 0 := rfl
  have e1 : (1 : Int32).toInt = 1 := rfl
  unfold fnX9_atEnd
  refine sp_bind (sp_it (J := fun s : Int32 × Int32 => ∃ i : Nat, i ≤ n ∧ s.2.toInt = (i : Nat) ∧ s.1.toInt = at_ i (en_ r33 (r32 7)) g % 998244353) (Q := fun c : Int32 => c.toInt = at_ n (en_ r33 (r32 7)) g % 998244353) (fun s => (300 - s.2.toInt).toNat) ?_ F _ ?_ ?_) (fun c hc => sp_some hc)
  · rintro ⟨y, x⟩ ⟨i, i1, i2, i3⟩
    refine sp_u2 ?_
    dsimp only at i2 i3
    have hcx : x.toNatClampNeg = i := by rw [i_cl, i2]; rfl
    have hx1 : (x + 1).toInt = ((i + 1 : Nat) : Int) := by rw [i_add (by omega) (by omega), i2, e1]; omega
    have hmu : (300 - (x + 1).toInt).toNat < (300 - x.toInt).toNat := by rw [hx1, i2]; omega
    have hsm : at_ (i + 1) (en_ r33 (r32 7)) g = at_ i (en_ r33 (r32 7)) g + if en_ r33 (r32 7) i then g i else 0 := rfl
    unfold bdX9_atEnd_4
    refine sp_ite (fun hz => sp_some ?_) (fun hz => ?_)
    · have := i_le.mp hz
      have : i = n := by omega
      subst this
      exact i3
    · have hz2 : ¬ (r32 2).toInt ≤ x.toInt := fun z => hz (i_le.mpr z)
      have hi : i < n := by omega
      have hix : mj_ib x 200 = true := mj_ib_of (by omega) (by omega)
      obtain ⟨g1, g2⟩ := hg i hi
      unfold fnX4_isEnd
      rw [if_pos hix, hcx]
      by_cases q : r33 i = r32 7
      · have qe : en_ r33 (r32 7) i = true := decide_eq_true q
        rw [if_pos q, Option.bind_some, if_neg (show ¬ (1 : Int32) = 0 from by decide)]
        refine sp_pos hix ?_
        refine sp_bind (s3_plus F (by rw [i3]; exact fd_md _) (by rw [g1]; exact g2)) (fun o ho => sp_some ⟨⟨i + 1, hi, hx1, ?_⟩, hmu⟩)
        dsimp only
        rw [ho, i3, g1, hsm, if_pos qe]
        omega
      · have qe : ¬ en_ r33 (r32 7) i = true := fun z => q (of_decide_eq_true z)
        rw [if_neg q, Option.bind_some, if_pos rfl]
        refine sp_some ⟨⟨i + 1, hi, hx1, ?_⟩, hmu⟩
        dsimp only
        rw [i3, hsm, if_neg qe, Int.add_zero]
  · exact ⟨0, by omega, e0, rfl⟩
  · show (300 - (0 : Int32).toInt).toNat < F
    rw [e0]; omega
/-- what the class keeps of it -/
def spQ (n : Nat) (na : Nat → Nat) (tg : Nat → Nat → Nat) (sh : Nat → Nat → Int) (en : Nat → Bool) (d : Nat) (r51 r52 r54 : Nat → Int32) : Prop := d ≤ 200 ∧ (r51 1).toInt = (d : Nat) ∧ (∀ t, t < n → (r52 t).toInt = hr n na tg sh d t) ∧ ∀ j, j ≤ d → (r54 j).toInt = wi n na tg sh en j % 998244353
theorem s_fill52 (F : Nat) (hF : 600 ≤ F) (r52 : Nat → Int32) : sp (fnJ7_fill_53178_52 F r52 0) (fun e => ∀ j, j < 200 → e j = 0) := by
  have e0 : (0 : Int32).toInt = 0 := rfl
  have e1 : (1 : Int32).toInt = 1 := rfl
  have e200 : (200 : Int32).toInt = 200 := rfl
  unfold fnJ7_fill_53178_52
  refine sp_bind (sp_it (J := fun s : Int32 × (Nat → Int32) => ∃ i : Nat, i ≤ 200 ∧ s.1.toInt = (i : Nat) ∧ ∀ u, u < i → s.2 u = 0) (Q := fun e : Nat → Int32 => ∀ j, j < 200 → e j = 0) (fun s => (300 - s.1.toInt).toNat) ?_ F _ ?_ ?_) (fun c hc => sp_some hc)
  · rintro ⟨x, a⟩ ⟨i, i1, i2, i3⟩
    refine sp_u2 ?_
    dsimp only at i2 i3
    have hcx : x.toNatClampNeg = i := by rw [i_cl, i2]; rfl
    have hx1 : (x + 1).toInt = ((i + 1 : Nat) : Int) := by rw [i_add (by omega) (by omega), i2, e1]; omega
    have hmu : (300 - (x + 1).toInt).toNat < (300 - x.toInt).toNat := by rw [hx1, i2]; omega
    unfold bdJ7_fill_53178_52_5
    refine sp_ite (fun hz => sp_some ?_) (fun hz => ?_)
    · have := i_le.mp hz
      have : i = 200 := by omega
      subst this
      exact i3
    · have hz2 : ¬ (200 : Int32).toInt ≤ x.toInt := fun z => hz (i_le.mpr z)
      have hi : i < 200 := by omega
      refine sp_pos (mj_ib_of (by omega) (by omega)) (sp_some ⟨⟨i + 1, hi, hx1, fun u hu => ?_⟩, hmu⟩)
      dsimp only
      rw [hcx]
      by_cases hui : u = i
      · rw [hui, upd_at]
      · rw [upd_ne hui]; exact i3 u (by omega)
  · exact ⟨0, by omega, e0, fun u hu => absurd hu (Nat.not_lt_zero u)⟩
  · show (300 - (0 : Int32).toInt).toNat < F
    rw [e0]; omega
theorem s9_goOn (F : Nat) (hF : 2100 ≤ F) {n : Nat} (hn : n ≤ 200) {fr na : Nat → Nat} {tg : Nat → Nat → Nat} {sh : Nat → Nat → Int} {r32 r33 r37 r38 r39 r51 r52 r53 r54 : Nat → Int32} (h2 : (r32 2).toInt = (n : Nat)) (hA : cA n fr na tg r37 r38) (hs : ∀ i, i < n → ∀ k, k < na i → (r39 (fr i + k)).toInt = sh i k ∧ 1 ≤ sh i k ∧ sh i k ≤ 60) {x2 : Int32} (hx : 0 ≤ x2.toInt ∧ x2.toInt ≤ 200) {d : Nat} (h : spQ n na tg sh (en_ r33 (r32 7)) d r51 r52 r54) :
    sp (jnX9_endedBy_50 F r32 r33 r37 r38 r39 x2 r51 r52 r53 r54) (fun o => o.1.toInt = wi n na tg sh (en_ r33 (r32 7)) x2.toInt.toNat % 998244353 ∧ o.2.1 0 = r51 0 ∧ ∃ d', spQ n na tg sh (en_ r33 (r32 7)) d' o.2.1 o.2.2.1 o.2.2.2.2) := by
  have e0 : (0 : Int32).toInt = 0 := rfl
  have e1 : (1 : Int32).toInt = 1 := rfl
  have e200 : (200 : Int32).toInt = 200 := rfl
  unfold jnX9_endedBy_50
  refine sp_bind (sp_it (J := fun s : Int32 × (Nat → Int32) × (Nat → Int32) × (Nat → Int32) × (Nat → Int32) => ∃ d : Nat, s.1.toInt = ((d + 1 : Nat) : Int) ∧ s.2.1 0 = r51 0 ∧ spQ n na tg sh (en_ r33 (r32 7)) d s.2.1 s.2.2.1 s.2.2.2.2) (Q := fun e : (Nat → Int32) × (Nat → Int32) × (Nat → Int32) × (Nat → Int32) => ∃ d : Nat, x2.toInt ≤ (d : Nat) ∧ e.1 0 = r51 0 ∧ spQ n na tg sh (en_ r33 (r32 7)) d e.1 e.2.1 e.2.2.2) (fun s => (300 - s.1.toInt).toNat) ?_ F _ ?_ ?_) ?_
  · rintro ⟨x3, a51, a52, a53, a54⟩ ⟨d, d1, d2, d3⟩
    refine sp_u2 (sp_u2 (sp_u2 (sp_u2 ?_)))
    dsimp only at d1 d2 d3
    obtain ⟨q1, q2, q3, q4⟩ := id d3
    unfold bdX9_endedBy_57
    refine sp_ite (fun hz => sp_some ⟨d, ?_, d2, d3⟩) (fun hz => ?_)
    · have := i_lt.mp hz; omega
    · have hz2 : ¬ x2.toInt < x3.toInt := fun z => hz (i_lt.mpr z)
      refine sp_ite (fun hy => sp_some ⟨d, ?_, d2, d3⟩) (fun hy => ?_)
      · have := i_lt.mp hy; omega
      · have hx3 : (x3 - 1).toInt = (d : Nat) := by rw [i_sub (by omega) (by omega), d1, e1]; omega
        have hc3 : (x3 - 1).toNatClampNeg = d := by rw [i_cl, hx3]; rfl
        have hcx : x3.toNatClampNeg = d + 1 := by rw [i_cl, d1]; omega
        have hx1 : (x3 + 1).toInt = ((d + 1 + 1 : Nat) : Int) := by rw [i_add (by omega) (by omega), d1, e1]; omega
        have hmu : (300 - (x3 + 1).toInt).toNat < (300 - x3.toInt).toNat := by rw [hx1, d1]; omega
        have hib3 : mj_ib (x3 - 1) 201 = true := mj_ib_of (by omega) (by omega)
        have hibx : mj_ib x3 201 = true := mj_ib_of (by omega) (by omega)
        have hd1 : d + 1 ≤ 200 := by omega
        refine sp_bind (s9_moveOn F hF hn (r53 := a53) h2 hA hs (fun t ht => ⟨q3 t ht, hr_fd n na tg sh d t⟩)) ?_
        rintro ⟨m1, m2⟩ ⟨m3, m4⟩
        dsimp only at m3 m4
        refine sp_pos hib3 ?_
        refine sp_bind (s9_atEnd F (by omega) hn h2 (g := hr n na tg sh (d + 1)) (fun t ht => ⟨m4 t ht, hr_fd n na tg sh (d + 1) t⟩)) (fun o5 ho5 => ?_)
        rw [hc3]
        refine sp_bind (s3_plus F (by rw [q4 d (Nat.le_refl d)]; exact fd_md _) (by rw [ho5]; exact fd_md _)) (fun o6 ho6 => ?_)
        refine sp_pos hibx (sp_some ⟨⟨d + 1, hx1, ?_, hd1, ?_, m4, fun j hj => ?_⟩, hmu⟩)
        · dsimp only; rw [upd_ne (by decide)]; exact d2
        · dsimp only; rw [upd_at]; exact d1
        · dsimp only
          rw [hcx]
          by_cases hjd : j = d + 1
          · rw [hjd, upd_at, ho6, q4 d (Nat.le_refl d), ho5, wi_s]; omega
          · rw [upd_ne hjd]; exact q4 j (by omega)
  · obtain ⟨q1, q2, q3, q4⟩ := id h
    refine ⟨d, ?_, rfl, h⟩
    show (r51 1 + 1).toInt = _
    rw [i_add (by omega) (by omega), q2, e1]; omega
  · obtain ⟨q1, q2, q3, q4⟩ := id h
    show (300 - (r51 1 + 1).toInt).toNat < F
    rw [i_add (by omega) (by omega), q2, e1]
    omega
  · rintro ⟨a51, a52, a53, a54⟩ ⟨d, d1, d2, d3⟩
    refine sp_u2 (sp_u2 (sp_u2 ?_))
    dsimp only at d2 d3
    obtain ⟨q1, q2, q3, q4⟩ := id d3
    refine sp_neg (fun z => by have := i_lt.mp z; omega) (sp_neg (fun z => by have := i_lt.mp z; omega) (sp_pos (mj_ib_of (by omega) (by omega)) (sp_some ⟨?_, d2, d, d3⟩)))
    dsimp only
    rw [i_cl]
    exact q4 x2.toInt.toNat (by omega)
theorem s9_endedBy (F : Nat) (hF : 2100 ≤ F) {n : Nat} (hn : n ≤ 200) {fr na : Nat → Nat} {tg : Nat → Nat → Nat} {sh : Nat → Nat → Int} {r32 r33 r37 r38 r39 r51 r52 r53 r54 : Nat → Int32} (h2 : (r32 2).toInt = (n : Nat)) (hA : cA n fr na tg r37 r38) (hs : ∀ i, i < n → ∀ k, k < na i → (r39 (fr i + k)).toInt = sh i k ∧ 1 ≤ sh i k ∧ sh i k ≤ 60) {x2 : Int32} (hx : 0 ≤ x2.toInt ∧ x2.toInt ≤ 200) (h : r51 0 = r32 0 → ∃ d, spQ n na tg sh (en_ r33 (r32 7)) d r51 r52 r54) :
    sp (fnX9_endedBy F r32 r33 r37 r38 r39 r51 r52 r53 r54 x2) (fun o => o.1.toInt = wi n na tg sh (en_ r33 (r32 7)) x2.toInt.toNat % 998244353 ∧ o.2.1 0 = r32 0 ∧ ∃ d', spQ n na tg sh (en_ r33 (r32 7)) d' o.2.1 o.2.2.1 o.2.2.2.2) := by
  have e0 : (0 : Int32).toInt = 0 := rfl
  have c0 : (0 : Int32).toNatClampNeg = 0 := rfl
  unfold fnX9_endedBy
  refine sp_ite (fun hv => ?_) (fun hv => ?_)
  · obtain ⟨d, hd⟩ := h hv
    refine sp_mono (s9_goOn F hF hn h2 hA hs hx hd) ?_
    rintro o ⟨o1, o2, o3⟩
    exact ⟨o1, o2.trans hv, o3⟩
  · refine sp_bind (s_fill52 F (by omega) r52) (fun o13 h13 => ?_)
    have hg : ∀ t, t < n → (upd o13 0 1 t).toInt = hr n na tg sh 0 t ∧ fd (hr n na tg sh 0 t) := by
      intro t ht
      refine ⟨?_, hr_fd n na tg sh 0 t⟩
      show (upd o13 0 1 t).toInt = if t = 0 then 1 else 0
      by_cases h0 : t = 0
      · rw [h0, upd_at, if_pos rfl]; rfl
      · rw [upd_ne h0, h13 t (by omega), if_neg h0]; rfl
    refine sp_pos (by decide) ?_
    rw [c0]
    refine sp_bind (s9_atEnd F (by omega) hn (r33 := r33) h2 hg) (fun o15 ho15 => ?_)
    refine sp_pos (by decide) ?_
    have hd : spQ n na tg sh (en_ r33 (r32 7)) 0 (upd (upd r51 0 (r32 0)) 1 0) (upd o13 0 1) (upd r54 0 o15) := by
      refine ⟨by omega, by rw [upd_at]; rfl, fun t ht => (hg t ht).1, fun j hj => ?_⟩
      have : j = 0 := by omega
      subst this
      rw [upd_at, ho15]
      rfl
    refine sp_mono (s9_goOn F hF hn h2 hA hs hx hd) ?_
    rintro o ⟨o1, o2, o3⟩
    exact ⟨o1, o2.trans ((upd_ne (by decide)).trans upd_at), o3⟩
