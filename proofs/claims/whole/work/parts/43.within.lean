/-! ===== within: the reference's steps and its sum ===== -/
theorem s11_w0 (F : Nat) (hF : 600 ≤ F) {n : Nat} (hn : n ≤ 200) {r71 : Nat → Int32} (h24 : (r71 24).toInt = (n : Nat)) (na : Nat → Nat) (tg : Nat → Nat → Nat) (sh : Nat → Nat → Int) {x1 x2 : Int32} (q91 : Nat → Int64) :
    sp (mj_it (mj_u2 (fun z0 z1 => bdX11_within_50 F r71 x1 x2 z0 z1)) F ((0 : Int32), q91)) (fun e => ∀ t, t < n → fd (e t).toInt ∧ cg (e t).toInt (nw n na tg sh 0 t)) := by
  have e0 : (0 : Int32).toInt = 0 := rfl
  refine sp_mono (s_rowL F hF hn h24 (v := fun t => if t = 0 then 1 else 0) q91 ?_ ?_) ?_
  · intro x q hz
    unfold bdX11_within_50
    rw [if_pos hz]
  · intro x q i hi hx
    have hcx : x.toNatClampNeg = i := by rw [i_cl, hx]; rfl
    have hix : mj_ib x 200 = true := mj_ib_of (by omega) (by omega)
    unfold bdX11_within_50
    rw [if_neg (fun z => by have := i_le.mp z; omega)]
    by_cases h0 : x = 0
    · have : i = 0 := by rw [h0, e0] at hx; omega
      rw [if_pos h0, if_pos hix, hcx, if_pos this]
    · have : ¬ i = 0 := fun z => h0 (i_eq.mpr (by rw [e0]; omega))
      rw [if_neg h0, if_pos hix, hcx, if_neg this]
  · intro e he t ht
    rw [he t ht]
    have hn0 : nw n na tg sh 0 t = if t = 0 then 1 else 0 := by
      unfold nw
      split <;> rfl
    rw [hn0]
    by_cases h0 : t = 0
    · rw [if_pos h0, if_pos h0]; exact ⟨⟨by decide, by decide⟩, cg_rf _⟩
    · rw [if_neg h0, if_neg h0]; exact ⟨⟨by decide, by decide⟩, cg_rf _⟩
theorem s11_ws (F : Nat) (hF : 600 ≤ F) {n : Nat} (hn : n ≤ 200) {na : Nat → Nat} {tg : Nat → Nat → Nat} {sh : Nat → Nat → Int} {r71 r83 r84 r85 : Nat → Int32} {q91 q92 q97 : Nat → Int64} (h24 : (r71 24).toInt = (n : Nat)) (hA : rA n na tg r83 r84) (ho : odQ q97) (hs : ∀ i, i < n → ∀ k, k < na i → (r85 (10 * i + k)).toInt = sh i k ∧ 1 ≤ sh i k ∧ sh i k ≤ 60) {x1 x2 : Int32} (hx : 0 ≤ x1.toInt ∧ x1.toInt ≤ 200) (h : ∀ t, t < n → fd (q91 t).toInt ∧ cg (q91 t).toInt (nw n na tg sh 0 t)) :
    sp (mj_it (mj_u2 (fun z0 => (mj_u2 (fun z1 z2 => bdX11_within_81 F r71 r83 r84 r85 q97 x1 x2 z0 z1 z2)))) F ((0 : Int32), q91, q92)) (fun e => ∀ t, t < n → fd (e.1 t).toInt ∧ cg (e.1 t).toInt (nw n na tg sh x1.toInt.toNat t)) := by
  have e0 : (0 : Int32).toInt = 0 := rfl
  have e1 : (1 : Int32).toInt = 1 := rfl
  refine sp_it (J := fun s : Int32 × (Nat → Int64) × (Nat → Int64) => ∃ j : Nat, (j : Int) ≤ x1.toInt ∧ s.1.toInt = (j : Nat) ∧ ∀ t, t < n → fd (s.2.1 t).toInt ∧ cg (s.2.1 t).toInt (nw n na tg sh j t)) (fun s => (300 - s.1.toInt).toNat) ?_ F _ ?_ ?_
  · rintro ⟨x, a91, a92⟩ ⟨j, j1, j2, j3⟩
    refine sp_u2 (sp_u2 ?_)
    dsimp only at j2 j3
    have hx1 : (x + 1).toInt = ((j + 1 : Nat) : Int) := by rw [i_add (by omega) (by omega), j2, e1]; omega
    have hmu : (300 - (x + 1).toInt).toNat < (300 - x.toInt).toNat := by rw [hx1, j2]; omega
    unfold bdX11_within_81
    refine sp_ite (fun hz => sp_some ?_) (fun hz => ?_)
    · have := i_le.mp hz
      have : x1.toInt.toNat = j := by omega
      rw [this]
      exact j3
    · have hz2 : ¬ x1.toInt ≤ x.toInt := fun z => hz (i_le.mpr z)
      refine sp_bind (s_rowL F hF hn h24 (v := fun t => if na t = 0 then a91 t else 0) a92 ?_ ?_) (fun o27 h27 => ?_)
      · intro y q hy
        unfold bdX11_within_89
        rw [if_pos hy]
      · intro y q i hi hy
        have hcx : y.toNatClampNeg = i := by rw [i_cl, hy]; rfl
        have hix : mj_ib y 200 = true := mj_ib_of (by omega) (by omega)
        have A1 := (hA i hi).1
        unfold bdX11_within_89
        rw [if_neg (fun z => by have := i_le.mp z; omega), if_pos hix, hcx]
        by_cases h0 : r83 i = 0
        · have : na i = 0 := by rw [h0, e0] at A1; omega
          rw [if_pos h0, if_pos hix, if_pos hix, if_pos this]
        · have : ¬ na i = 0 := fun z => h0 (i_eq.mpr (by rw [e0, A1, z]; rfl))
          rw [if_neg h0, if_pos hix, if_neg this]
      · have hb : ∀ t, t < n → fd (o27 t).toInt ∧ (o27 t).toInt = if na t = 0 then (a91 t).toInt else 0 := by
          intro t ht
          rw [h27 t ht]
          by_cases h0 : na t = 0
          · rw [if_pos h0, if_pos h0]; exact ⟨(j3 t ht).1, rfl⟩
          · rw [if_neg h0, if_neg h0]; exact ⟨⟨by decide, by decide⟩, rfl⟩
        refine sp_bind (s11_flows F hF hn h24 hA ho hs (fun t ht => (j3 t ht).1) (fun t ht => (hb t ht).1)) (fun o28 h28 => ?_)
        refine sp_bind (s_rowL F hF hn h24 (v := o28) a91 ?_ ?_) (fun o29 h29 => ?_)
        · intro y q hy
          unfold bdX11_within_246
          rw [if_pos hy]
        · intro y q i hi hy
          have hcx : y.toNatClampNeg = i := by rw [i_cl, hy]; rfl
          have hix : mj_ib y 200 = true := mj_ib_of (by omega) (by omega)
          unfold bdX11_within_246
          rw [if_neg (fun z => by have := i_le.mp z; omega), if_pos hix, if_pos hix, hcx]
        · refine sp_some ⟨⟨j + 1, by omega, hx1, fun t ht => ?_⟩, hmu⟩
          dsimp only
          rw [h29 t ht]
          obtain ⟨w1, w2⟩ := h28 t ht
          rw [(hb t ht).2] at w2
          exact ⟨w1, cg_tr w2 (nw_s n na tg sh j t (q := fun i => (a91 i).toInt) (fun i hi => (j3 i hi).2) ht)⟩
  · exact ⟨0, hx.1, e0, h⟩
  · show (300 - (0 : Int32).toInt).toNat < F
    rw [e0]; omega
theorem s11_wsum (F : Nat) (hF : 600 ≤ F) {n : Nat} (hn : n ≤ 200) {r71 r80 : Nat → Int32} {q91 : Nat → Int64} {g : Nat → Int} {en : Nat → Bool} (h24 : (r71 24).toInt = (n : Nat)) (he : ∀ t, t < n → (en t = true ↔ r80 t = r71 4)) {x2 : Int32} (h : ∀ t, t < n → fd (q91 t).toInt ∧ (en t = true → cg (q91 t).toInt (g t))) :
    sp (mj_it (mj_u2 (fun z0 z1 => bdX11_within_286 F r71 r80 q91 x2 z0 z1)) F ((0 : Int64), (0 : Int32))) (fun x => 0 ≤ x.toInt ∧ cg x.toInt (at_ n en g)) := by
  have e0 : (0 : Int32).toInt = 0 := rfl
  have e1 : (1 : Int32).toInt = 1 := rfl
  have l0 : (0 : Int64).toInt = 0 := rfl
  refine sp_mono (sp_it (J := fun s : Int64 × Int32 => ∃ i : Nat, i ≤ n ∧ s.2.toInt = (i : Nat) ∧ 0 ≤ s.1.toInt ∧ s.1.toInt ≤ (i : Int) * 998244353 ∧ cg s.1.toInt (at_ i en g)) (Q := fun x : Int64 => 0 ≤ x.toInt ∧ cg x.toInt (at_ n en g)) (fun s => (300 - s.2.toInt).toNat) ?_ F _ ?_ ?_) (fun a ha => ha)
  · rintro ⟨y, x⟩ ⟨i, i1, i2, i3, i4, i5⟩
    refine sp_u2 ?_
    dsimp only at i2 i3 i4 i5
    have hcx : x.toNatClampNeg = i := by rw [i_cl, i2]; rfl
    have hx1 : (x + 1).toInt = ((i + 1 : Nat) : Int) := by rw [i_add (by omega) (by omega), i2, e1]; omega
    have hmu : (300 - (x + 1).toInt).toNat < (300 - x.toInt).toNat := by rw [hx1, i2]; omega
    have hsm : at_ (i + 1) en g = at_ i en g + if en i then g i else 0 := rfl
    unfold bdX11_within_286
    refine sp_ite (fun hz => sp_some ?_) (fun hz => ?_)
    · have := i_le.mp hz
      have : i = n := by omega
      subst this
      exact ⟨i3, i5⟩
    · have hz2 : ¬ (r71 24).toInt ≤ x.toInt := fun z => hz (i_le.mpr z)
      have hi : i < n := by omega
      have hix : mj_ib x 200 = true := mj_ib_of (by omega) (by omega)
      obtain ⟨q1, q2⟩ := h i hi
      have q10 := q1.1
      have q11 := q1.2
      unfold fnX11_isEnd
      rw [if_pos hix, hcx]
      by_cases q : r80 i = r71 4
      · have qe : en i = true := (he i hi).mpr q
        rw [if_pos q, Option.bind_some, if_neg (show ¬ (1 : Int32) = 0 from by decide)]
        have ea : (y + q91 i).toInt = y.toInt + (q91 i).toInt := by rw [l_add (by omega) (by omega)]
        refine sp_pos hix (sp_some ⟨⟨i + 1, hi, hx1, ?_, ?_, ?_⟩, hmu⟩)
        · dsimp only; rw [ea]; omega
        · dsimp only; rw [ea]; omega
        · dsimp only
          rw [ea, hsm, if_pos qe]
          exact cg_add i5 (q2 qe)
      · have qe : ¬ en i = true := fun z => q ((he i hi).mp z)
        rw [if_neg q, Option.bind_some, if_pos rfl]
        have ea : (y + 0).toInt = y.toInt := by rw [l_add (by rw [l0]; omega) (by rw [l0]; omega), l0]; omega
        refine sp_some ⟨⟨i + 1, hi, hx1, ?_, ?_, ?_⟩, hmu⟩
        · dsimp only; rw [ea]; omega
        · dsimp only; rw [ea]; omega
        · dsimp only
          rw [ea, hsm, if_neg qe, Int.add_zero]
          exact i5
  · refine ⟨0, by omega, e0, by dsimp only; rw [l0]; omega, by dsimp only; rw [l0]; omega, ?_⟩
    exact cg_rf _
  · show (300 - (0 : Int32).toInt).toNat < F
    rw [e0]; omega
