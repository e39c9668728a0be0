/-! ===== state ===== -/
theorem h_state_c (F : Nat) {I : mj_IT} {a : T9} {x1 x2 : Int32} (hn : nsG F I = some (.inl (a.1, a.2.1, a.2.2.1, a.2.2.2.1, a.2.2.2.2.1, a.2.2.2.2.2.1, a.2.2.2.2.2.2.1, a.2.2.2.2.2.2.2.1, a.2.2.2.2.2.2.2.2, I 70))) (i1 : fnX10_needState F a.1 (I 70) x1 = some (.inl (I 70))) (i2 : fnX10_needNumber F (I 70) x2 0 9 = some (.inl (I 70))) : fnX10_state F (I 1) (I 18) (I 19) (I 20) (I 21) (I 22) (I 23) (I 24) (I 25) (I 26) (I 32) (I 33) (I 34) (I 35) (I 36) (I 37) (I 38) (I 39) (I 40) (I 70) x1 x2 = (if x2 = (0 : Int32) then (if mj_ib x1 200 = true then some (.inl ((a.2.1 x1.toNatClampNeg), a.1, a.2.1, a.2.2.1, a.2.2.2.1, a.2.2.2.2.1, a.2.2.2.2.2.1, a.2.2.2.2.2.2.1, a.2.2.2.2.2.2.2.1, a.2.2.2.2.2.2.2.2, (I 70))) else none) else (if x2 = (1 : Int32) then (if mj_ib x1 200 = true then (fnX1_get F (a.2.2.1 x1.toNatClampNeg) (x2 - (1 : Int32))).bind (fun o7 => some (.inl (o7, a.1, a.2.1, a.2.2.1, a.2.2.2.1, a.2.2.2.2.1, a.2.2.2.2.2.1, a.2.2.2.2.2.2.1, a.2.2.2.2.2.2.2.1, a.2.2.2.2.2.2.2.2, (I 70)))) else none) else (if x2 = (2 : Int32) then (if mj_ib x1 200 = true then (fnX1_get F (a.2.2.1 x1.toNatClampNeg) (x2 - (1 : Int32))).bind (fun o9 => some (.inl (o9, a.1, a.2.1, a.2.2.1, a.2.2.2.1, a.2.2.2.2.1, a.2.2.2.2.2.1, a.2.2.2.2.2.2.1, a.2.2.2.2.2.2.2.1, a.2.2.2.2.2.2.2.2, (I 70)))) else none) else (if x2 = (3 : Int32) then (if mj_ib x1 200 = true then (fnX1_get F (a.2.2.1 x1.toNatClampNeg) (x2 - (1 : Int32))).bind (fun a1 => some (.inl (a1, a.1, a.2.1, a.2.2.1, a.2.2.2.1, a.2.2.2.2.1, a.2.2.2.2.2.1, a.2.2.2.2.2.2.1, a.2.2.2.2.2.2.2.1, a.2.2.2.2.2.2.2.2, (I 70)))) else none) else (if x2 = (4 : Int32) then (if mj_ib x1 200 = true then (fnX1_get F (a.2.2.1 x1.toNatClampNeg) (x2 - (1 : Int32))).bind (fun a3 => some (.inl (a3, a.1, a.2.1, a.2.2.1, a.2.2.2.1, a.2.2.2.2.1, a.2.2.2.2.2.1, a.2.2.2.2.2.2.1, a.2.2.2.2.2.2.2.1, a.2.2.2.2.2.2.2.2, (I 70)))) else none) else (if x2 = (5 : Int32) then (if mj_ib x1 200 = true then (fnX1_get F (a.2.2.1 x1.toNatClampNeg) (x2 - (1 : Int32))).bind (fun a5 => some (.inl (a5, a.1, a.2.1, a.2.2.1, a.2.2.2.1, a.2.2.2.2.1, a.2.2.2.2.2.1, a.2.2.2.2.2.2.1, a.2.2.2.2.2.2.2.1, a.2.2.2.2.2.2.2.2, (I 70)))) else none) else (if x2 = (6 : Int32) then (if mj_ib x1 200 = true then (fnX1_get F (a.2.2.1 x1.toNatClampNeg) (x2 - (1 : Int32))).bind (fun a7 => some (.inl (a7, a.1, a.2.1, a.2.2.1, a.2.2.2.1, a.2.2.2.2.1, a.2.2.2.2.2.1, a.2.2.2.2.2.2.1, a.2.2.2.2.2.2.2.1, a.2.2.2.2.2.2.2.2, (I 70)))) else none) else (if x2 = (7 : Int32) then (if mj_ib x1 200 = true then some (.inl ((a.2.2.2.1 x1.toNatClampNeg), a.1, a.2.1, a.2.2.1, a.2.2.2.1, a.2.2.2.2.1, a.2.2.2.2.2.1, a.2.2.2.2.2.2.1, a.2.2.2.2.2.2.2.1, a.2.2.2.2.2.2.2.2, (I 70))) else none) else (if x2 = (8 : Int32) then (if mj_ib x1 200 = true then (if (a.2.2.2.2.1 x1.toNatClampNeg) = 0 then some (.inl ((0 : Int32), a.1, a.2.1, a.2.2.1, a.2.2.2.1, a.2.2.2.2.1, a.2.2.2.2.2.1, a.2.2.2.2.2.2.1, a.2.2.2.2.2.2.2.1, a.2.2.2.2.2.2.2.2, (I 70))) else some (.inl ((1 : Int32), a.1, a.2.1, a.2.2.1, a.2.2.2.1, a.2.2.2.2.1, a.2.2.2.2.2.1, a.2.2.2.2.2.2.1, a.2.2.2.2.2.2.2.1, a.2.2.2.2.2.2.2.2, (I 70)))) else none) else (if x2 = (9 : Int32) then (fnX4_arcsOf F a.2.2.2.2.2.1 x1).bind (fun o21 => some (.inl (o21, a.1, a.2.1, a.2.2.1, a.2.2.2.1, a.2.2.2.2.1, a.2.2.2.2.2.1, a.2.2.2.2.2.2.1, a.2.2.2.2.2.2.2.1, a.2.2.2.2.2.2.2.2, (I 70)))) else (if mj_ib x1 200 = true then (fnX1_get F (a.2.2.1 x1.toNatClampNeg) (x2 - (1 : Int32))).bind (fun o23 => some (.inl (o23, a.1, a.2.1, a.2.2.1, a.2.2.2.1, a.2.2.2.2.1, a.2.2.2.2.2.1, a.2.2.2.2.2.2.1, a.2.2.2.2.2.2.2.1, a.2.2.2.2.2.2.2.2, (I 70)))) else none))))))))))) := by
  unfold fnX10_state
  change (nsG F I).bind _ = _
  rw [hn, Option.bind_some, Sum.elim_inl]
  change (fnX10_needState F a.1 (I 70) x1).bind _ = _
  rw [i1, Option.bind_some, Sum.elim_inl, i2, Option.bind_some, Sum.elim_inl]
theorem h_state_r (F : Nat) {I : mj_IT} {b : T8} {x1 x2 : Int32} (hf : fwG F I = some (1, b.1, I 72, b.2)) (j1 : fnX11_isState F b.1 x1 = some 1) (b0 : b.1 0 = 0) (j2 : fnX11_lies F x2.toInt64 0 9 = some 1) : fnX11_state F (I 71) (I 72) (I 73) (I 75) (I 80) (I 81) (I 82) (I 83) (I 84) (I 85) (I 86) (I 87) x1 x2 = (if x2 = 0 then (if mj_ib x1 200 = true then some ((b.2.1 x1.toNatClampNeg), b.1, (I 72), b.2.1, b.2.2.1, b.2.2.2.1, b.2.2.2.2.1, b.2.2.2.2.2.1, b.2.2.2.2.2.2.1, b.2.2.2.2.2.2.2) else none) else (if (7 : Int32) ≤ x2 then (if x2 = (7 : Int32) then (if mj_ib x1 200 = true then some ((b.2.2.2.1 x1.toNatClampNeg), b.1, (I 72), b.2.1, b.2.2.1, b.2.2.2.1, b.2.2.2.2.1, b.2.2.2.2.2.1, b.2.2.2.2.2.2.1, b.2.2.2.2.2.2.2) else none) else (if x2 = (8 : Int32) then (if mj_ib x1 200 = true then (if (b.2.2.2.2.2.2.2 x1.toNatClampNeg) = 0 then some ((1 : Int32), b.1, (I 72), b.2.1, b.2.2.1, b.2.2.2.1, b.2.2.2.2.1, b.2.2.2.2.2.1, b.2.2.2.2.2.2.1, b.2.2.2.2.2.2.2) else some ((0 : Int32), b.1, (I 72), b.2.1, b.2.2.1, b.2.2.2.1, b.2.2.2.2.1, b.2.2.2.2.2.1, b.2.2.2.2.2.2.1, b.2.2.2.2.2.2.2)) else none) else (if mj_ib x1 200 = true then some ((b.2.2.2.2.1 x1.toNatClampNeg), b.1, (I 72), b.2.1, b.2.2.1, b.2.2.2.1, b.2.2.2.2.1, b.2.2.2.2.2.1, b.2.2.2.2.2.2.1, b.2.2.2.2.2.2.2) else none))) else (if mj_ib x1 200 = true then (fnX11_valueIn F (I 87) (b.2.2.1 x1.toNatClampNeg) (x2 - (1 : Int32))).bind (fun b8 => some (b8, b.1, (I 72), b.2.1, b.2.2.1, b.2.2.2.1, b.2.2.2.2.1, b.2.2.2.2.2.1, b.2.2.2.2.2.2.1, b.2.2.2.2.2.2.2)) else none))) := by
  unfold fnX11_state
  change (fwG F I).bind _ = _
  rw [hf, Option.bind_some, if_neg (show ¬ (1 : Int32) = 0 from by decide)]
  change (fnX11_isState F b.1 x1).bind _ = _
  rw [j1, Option.bind_some]
  change (fnX11_isFine F b.1 (I 72) 1 2 0).bind _ = _
  rw [q_fine F b0, Option.bind_some, if_neg (show ¬ (1 : Int32) = 0 from by decide), j2, Option.bind_some]
  change (fnX11_isFine F b.1 (I 72) 1 3 1).bind _ = _
  rw [q_fine F b0, Option.bind_some, if_neg (show ¬ (1 : Int32) = 0 from by decide)]
theorem q_state_v (F : Nat) {I : mj_IT} {a : T9} {b : T8} {n s : Nat} {fr na : Nat → Nat} {tg : Nat → Nat → Nat} {x1 x2 : Int32} (y2 : n ≤ 200) (hi : mj_ib x1 200 = true) (hs : x1.toNatClampNeg = s) (hsx : x1.toInt = (s : Nat)) (hsn : s < n) (D1 : b.2.1 s = a.2.1 s) (D2 : b.2.2.1 s = a.2.2.1 s) (D3 : b.2.2.2.1 s = a.2.2.2.1 s) (G1 : (a.2.2.2.2.2.1 s).toInt = fr s ∧ (a.2.2.2.2.2.1 (s + 1)).toInt = fr s + na s ∧ fr s + na s ≤ 2000 ∧ ∀ k, k < na s → (a.2.2.2.2.2.2.1 (fr s + k)).toInt = tg s k ∧ tg s k < n) (G2 : (b.2.2.2.2.1 s).toInt = (na s : Nat) ∧ na s ≤ 10 ∧ ∀ k, k < na s → (b.2.2.2.2.2.1 (10 * s + k)).toInt = (tg s k : Nat) ∧ tg s k < n) (G3 : ¬ b.2.2.2.2.2.2.2 s = 0 ↔ a.2.2.2.2.1 s = 0) (ht : tens (I 87)) (h2 : 0 ≤ x2.toInt ∧ x2.toInt ≤ 9) :
    ∃ v : Int32, ((if x2 = (0 : Int32) then (if mj_ib x1 200 = true then some (.inl ((a.2.1 x1.toNatClampNeg), a.1, a.2.1, a.2.2.1, a.2.2.2.1, a.2.2.2.2.1, a.2.2.2.2.2.1, a.2.2.2.2.2.2.1, a.2.2.2.2.2.2.2.1, a.2.2.2.2.2.2.2.2, (I 70))) else none) else (if x2 = (1 : Int32) then (if mj_ib x1 200 = true then (fnX1_get F (a.2.2.1 x1.toNatClampNeg) (x2 - (1 : Int32))).bind (fun o7 => some (.inl (o7, a.1, a.2.1, a.2.2.1, a.2.2.2.1, a.2.2.2.2.1, a.2.2.2.2.2.1, a.2.2.2.2.2.2.1, a.2.2.2.2.2.2.2.1, a.2.2.2.2.2.2.2.2, (I 70)))) else none) else (if x2 = (2 : Int32) then (if mj_ib x1 200 = true then (fnX1_get F (a.2.2.1 x1.toNatClampNeg) (x2 - (1 : Int32))).bind (fun o9 => some (.inl (o9, a.1, a.2.1, a.2.2.1, a.2.2.2.1, a.2.2.2.2.1, a.2.2.2.2.2.1, a.2.2.2.2.2.2.1, a.2.2.2.2.2.2.2.1, a.2.2.2.2.2.2.2.2, (I 70)))) else none) else (if x2 = (3 : Int32) then (if mj_ib x1 200 = true then (fnX1_get F (a.2.2.1 x1.toNatClampNeg) (x2 - (1 : Int32))).bind (fun a1 => some (.inl (a1, a.1, a.2.1, a.2.2.1, a.2.2.2.1, a.2.2.2.2.1, a.2.2.2.2.2.1, a.2.2.2.2.2.2.1, a.2.2.2.2.2.2.2.1, a.2.2.2.2.2.2.2.2, (I 70)))) else none) else (if x2 = (4 : Int32) then (if mj_ib x1 200 = true then (fnX1_get F (a.2.2.1 x1.toNatClampNeg) (x2 - (1 : Int32))).bind (fun a3 => some (.inl (a3, a.1, a.2.1, a.2.2.1, a.2.2.2.1, a.2.2.2.2.1, a.2.2.2.2.2.1, a.2.2.2.2.2.2.1, a.2.2.2.2.2.2.2.1, a.2.2.2.2.2.2.2.2, (I 70)))) else none) else (if x2 = (5 : Int32) then (if mj_ib x1 200 = true then (fnX1_get F (a.2.2.1 x1.toNatClampNeg) (x2 - (1 : Int32))).bind (fun a5 => some (.inl (a5, a.1, a.2.1, a.2.2.1, a.2.2.2.1, a.2.2.2.2.1, a.2.2.2.2.2.1, a.2.2.2.2.2.2.1, a.2.2.2.2.2.2.2.1, a.2.2.2.2.2.2.2.2, (I 70)))) else none) else (if x2 = (6 : Int32) then (if mj_ib x1 200 = true then (fnX1_get F (a.2.2.1 x1.toNatClampNeg) (x2 - (1 : Int32))).bind (fun a7 => some (.inl (a7, a.1, a.2.1, a.2.2.1, a.2.2.2.1, a.2.2.2.2.1, a.2.2.2.2.2.1, a.2.2.2.2.2.2.1, a.2.2.2.2.2.2.2.1, a.2.2.2.2.2.2.2.2, (I 70)))) else none) else (if x2 = (7 : Int32) then (if mj_ib x1 200 = true then some (.inl ((a.2.2.2.1 x1.toNatClampNeg), a.1, a.2.1, a.2.2.1, a.2.2.2.1, a.2.2.2.2.1, a.2.2.2.2.2.1, a.2.2.2.2.2.2.1, a.2.2.2.2.2.2.2.1, a.2.2.2.2.2.2.2.2, (I 70))) else none) else (if x2 = (8 : Int32) then (if mj_ib x1 200 = true then (if (a.2.2.2.2.1 x1.toNatClampNeg) = 0 then some (.inl ((0 : Int32), a.1, a.2.1, a.2.2.1, a.2.2.2.1, a.2.2.2.2.1, a.2.2.2.2.2.1, a.2.2.2.2.2.2.1, a.2.2.2.2.2.2.2.1, a.2.2.2.2.2.2.2.2, (I 70))) else some (.inl ((1 : Int32), a.1, a.2.1, a.2.2.1, a.2.2.2.1, a.2.2.2.2.1, a.2.2.2.2.2.1, a.2.2.2.2.2.2.1, a.2.2.2.2.2.2.2.1, a.2.2.2.2.2.2.2.2, (I 70)))) else none) else (if x2 = (9 : Int32) then (fnX4_arcsOf F a.2.2.2.2.2.1 x1).bind (fun o21 => some (.inl (o21, a.1, a.2.1, a.2.2.1, a.2.2.2.1, a.2.2.2.2.1, a.2.2.2.2.2.1, a.2.2.2.2.2.2.1, a.2.2.2.2.2.2.2.1, a.2.2.2.2.2.2.2.2, (I 70)))) else (if mj_ib x1 200 = true then (fnX1_get F (a.2.2.1 x1.toNatClampNeg) (x2 - (1 : Int32))).bind (fun o23 => some (.inl (o23, a.1, a.2.1, a.2.2.1, a.2.2.2.1, a.2.2.2.2.1, a.2.2.2.2.2.1, a.2.2.2.2.2.2.1, a.2.2.2.2.2.2.2.1, a.2.2.2.2.2.2.2.2, (I 70)))) else none))))))))))) : Option ((Int32 × (Nat → Int32) × (Nat → Int32) × (Nat → Int32) × (Nat → Int32) × (Nat → Int32) × (Nat → Int32) × (Nat → Int32) × (Nat → Int32) × (Nat → Int32) × (Nat → Int32)) ⊕ (Nat × (Nat → Int32) × (Nat → Int32) × (Nat → Int32) × (Nat → Int32) × (Nat → Int32) × (Nat → Int32) × (Nat → Int32) × (Nat → Int32) × (Nat → Int32) × (Nat → Int32)))) = some (.inl (v, a.1, a.2.1, a.2.2.1, a.2.2.2.1, a.2.2.2.2.1, a.2.2.2.2.2.1, a.2.2.2.2.2.2.1, a.2.2.2.2.2.2.2.1, a.2.2.2.2.2.2.2.2, I 70)) ∧ (if x2 = 0 then (if mj_ib x1 200 = true then some ((b.2.1 x1.toNatClampNeg), b.1, (I 72), b.2.1, b.2.2.1, b.2.2.2.1, b.2.2.2.2.1, b.2.2.2.2.2.1, b.2.2.2.2.2.2.1, b.2.2.2.2.2.2.2) else none) else (if (7 : Int32) ≤ x2 then (if x2 = (7 : Int32) then (if mj_ib x1 200 = true then some ((b.2.2.2.1 x1.toNatClampNeg), b.1, (I 72), b.2.1, b.2.2.1, b.2.2.2.1, b.2.2.2.2.1, b.2.2.2.2.2.1, b.2.2.2.2.2.2.1, b.2.2.2.2.2.2.2) else none) else (if x2 = (8 : Int32) then (if mj_ib x1 200 = true then (if (b.2.2.2.2.2.2.2 x1.toNatClampNeg) = 0 then some ((1 : Int32), b.1, (I 72), b.2.1, b.2.2.1, b.2.2.2.1, b.2.2.2.2.1, b.2.2.2.2.2.1, b.2.2.2.2.2.2.1, b.2.2.2.2.2.2.2) else some ((0 : Int32), b.1, (I 72), b.2.1, b.2.2.1, b.2.2.2.1, b.2.2.2.2.1, b.2.2.2.2.2.1, b.2.2.2.2.2.2.1, b.2.2.2.2.2.2.2)) else none) else (if mj_ib x1 200 = true then some ((b.2.2.2.2.1 x1.toNatClampNeg), b.1, (I 72), b.2.1, b.2.2.1, b.2.2.2.1, b.2.2.2.2.1, b.2.2.2.2.2.1, b.2.2.2.2.2.2.1, b.2.2.2.2.2.2.2) else none))) else (if mj_ib x1 200 = true then (fnX11_valueIn F (I 87) (b.2.2.1 x1.toNatClampNeg) (x2 - (1 : Int32))).bind (fun b8 => some (b8, b.1, (I 72), b.2.1, b.2.2.1, b.2.2.2.1, b.2.2.2.2.1, b.2.2.2.2.2.1, b.2.2.2.2.2.2.1, b.2.2.2.2.2.2.2)) else none))) = some (v, b.1, I 72, b.2) := by
  have e7 : (7 : Int32).toInt = 7 := rfl
  have e1 : (1 : Int32).toInt = 1 := rfl
  by_cases c0 : x2 = 0
  · refine ⟨a.2.1 s, ?_, ?_⟩
    · rw [if_pos c0, if_pos hi, hs]
    · rw [if_pos c0, if_pos hi, hs, D1]
  by_cases c1 : x2 = 1
  · have e : (x2 - 1).toInt = 0 := by rw [c1]; rfl
    have e' : (x2 - 1).toNatClampNeg = 0 := by rw [i_cl, e]; rfl
    have w : vr (x2 - 1) := ⟨by rw [e]; omega, by rw [e]; omega⟩
    refine ⟨dgt (a.2.2.1 s) 0, ?_, ?_⟩
    · rw [if_neg c0, if_pos c1, if_pos hi, hs, g_get F _ w, e']
      rfl
    · rw [if_neg c0, if_neg (by rw [c1]; decide), if_pos hi, hs, g_valueIn F ht _ w, e', D2]
      rfl
  by_cases c2 : x2 = 2
  · have e : (x2 - 1).toInt = 1 := by rw [c2]; rfl
    have e' : (x2 - 1).toNatClampNeg = 1 := by rw [i_cl, e]; rfl
    have w : vr (x2 - 1) := ⟨by rw [e]; omega, by rw [e]; omega⟩
    refine ⟨dgt (a.2.2.1 s) 1, ?_, ?_⟩
    · rw [if_neg c0, if_neg c1, if_pos c2, if_pos hi, hs, g_get F _ w, e']
      rfl
    · rw [if_neg c0, if_neg (by rw [c2]; decide), if_pos hi, hs, g_valueIn F ht _ w, e', D2]
      rfl
  by_cases c3 : x2 = 3
  · have e : (x2 - 1).toInt = 2 := by rw [c3]; rfl
    have e' : (x2 - 1).toNatClampNeg = 2 := by rw [i_cl, e]; rfl
    have w : vr (x2 - 1) := ⟨by rw [e]; omega, by rw [e]; omega⟩
    refine ⟨dgt (a.2.2.1 s) 2, ?_, ?_⟩
    · rw [if_neg c0, if_neg c1, if_neg c2, if_pos c3, if_pos hi, hs, g_get F _ w, e']
      rfl
    · rw [if_neg c0, if_neg (by rw [c3]; decide), if_pos hi, hs, g_valueIn F ht _ w, e', D2]
      rfl
  by_cases c4 : x2 = 4
  · have e : (x2 - 1).toInt = 3 := by rw [c4]; rfl
    have e' : (x2 - 1).toNatClampNeg = 3 := by rw [i_cl, e]; rfl
    have w : vr (x2 - 1) := ⟨by rw [e]; omega, by rw [e]; omega⟩
    refine ⟨dgt (a.2.2.1 s) 3, ?_, ?_⟩
    · rw [if_neg c0, if_neg c1, if_neg c2, if_neg c3, if_pos c4, if_pos hi, hs, g_get F _ w, e']
      rfl
    · rw [if_neg c0, if_neg (by rw [c4]; decide), if_pos hi, hs, g_valueIn F ht _ w, e', D2]
      rfl
  by_cases c5 : x2 = 5
  · have e : (x2 - 1).toInt = 4 := by rw [c5]; rfl
    have e' : (x2 - 1).toNatClampNeg = 4 := by rw [i_cl, e]; rfl
    have w : vr (x2 - 1) := ⟨by rw [e]; omega, by rw [e]; omega⟩
    refine ⟨dgt (a.2.2.1 s) 4, ?_, ?_⟩
    · rw [if_neg c0, if_neg c1, if_neg c2, if_neg c3, if_neg c4, if_pos c5, if_pos hi, hs, g_get F _ w, e']
      rfl
    · rw [if_neg c0, if_neg (by rw [c5]; decide), if_pos hi, hs, g_valueIn F ht _ w, e', D2]
      rfl
  by_cases c6 : x2 = 6
  · have e : (x2 - 1).toInt = 5 := by rw [c6]; rfl
    have e' : (x2 - 1).toNatClampNeg = 5 := by rw [i_cl, e]; rfl
    have w : vr (x2 - 1) := ⟨by rw [e]; omega, by rw [e]; omega⟩
    refine ⟨dgt (a.2.2.1 s) 5, ?_, ?_⟩
    · rw [if_neg c0, if_neg c1, if_neg c2, if_neg c3, if_neg c4, if_neg c5, if_pos c6, if_pos hi, hs, g_get F _ w, e']
      rfl
    · rw [if_neg c0, if_neg (by rw [c6]; decide), if_pos hi, hs, g_valueIn F ht _ w, e', D2]
      rfl
  have n7 : (7 : Int32) ≤ x2 := i_le.mpr (by
    have d0 : ¬ x2.toInt = 0 := fun z => c0 (i_eq.mpr (by rw [z]; rfl))
    have d1 : ¬ x2.toInt = 1 := fun z => c1 (i_eq.mpr (by rw [z]; rfl))
    have d2 : ¬ x2.toInt = 2 := fun z => c2 (i_eq.mpr (by rw [z]; rfl))
    have d3 : ¬ x2.toInt = 3 := fun z => c3 (i_eq.mpr (by rw [z]; rfl))
    have d4 : ¬ x2.toInt = 4 := fun z => c4 (i_eq.mpr (by rw [z]; rfl))
    have d5 : ¬ x2.toInt = 5 := fun z => c5 (i_eq.mpr (by rw [z]; rfl))
    have d6 : ¬ x2.toInt = 6 := fun z => c6 (i_eq.mpr (by rw [z]; rfl))
    omega)
  by_cases c7 : x2 = 7
  · refine ⟨a.2.2.2.1 s, ?_, ?_⟩
    · rw [if_neg c0, if_neg c1, if_neg c2, if_neg c3, if_neg c4, if_neg c5, if_neg c6, if_pos c7, if_pos hi, hs]
    · rw [if_neg c0, if_pos n7, if_pos c7, if_pos hi, hs, D3]
  by_cases c8 : x2 = 8
  · by_cases d : a.2.2.2.2.1 s = 0
    · refine ⟨0, ?_, ?_⟩
      · rw [if_neg c0, if_neg c1, if_neg c2, if_neg c3, if_neg c4, if_neg c5, if_neg c6, if_neg c7, if_pos c8, if_pos hi, hs, if_pos d]
      · rw [if_neg c0, if_pos n7, if_neg c7, if_pos c8, if_pos hi, hs, if_neg (G3.mpr d)]
    · have d' : b.2.2.2.2.2.2.2 s = 0 := Classical.byContradiction (fun z => d (G3.mp z))
      refine ⟨1, ?_, ?_⟩
      · rw [if_neg c0, if_neg c1, if_neg c2, if_neg c3, if_neg c4, if_neg c5, if_neg c6, if_neg c7, if_pos c8, if_pos hi, hs, if_neg d]
      · rw [if_neg c0, if_pos n7, if_neg c7, if_pos c8, if_pos hi, hs, if_pos d']
  · have c9 : x2 = 9 := i_eq.mpr (by
      have e9 : (9 : Int32).toInt = 9 := rfl
      have e8 : (8 : Int32).toInt = 8 := rfl
      have d7 : ¬ x2.toInt = 7 := fun z => c7 (i_eq.mpr (by rw [z, e7]))
      have d8 : ¬ x2.toInt = 8 := fun z => c8 (i_eq.mpr (by rw [z, e8]))
      have := i_le.mp n7
      omega)
    have s1 : (x1 + 1).toInt = ((s + 1 : Nat) : Int) := by rw [i_add (by omega) (by omega), hsx, e1]; omega
    have t1 : (x1 + 1).toNatClampNeg = s + 1 := by rw [i_cl, s1]; rfl
    refine ⟨b.2.2.2.2.1 s, ?_, ?_⟩
    · rw [if_neg c0, if_neg c1, if_neg c2, if_neg c3, if_neg c4, if_neg c5, if_neg c6, if_neg c7, if_neg c8, if_pos c9]
      unfold fnX4_arcsOf
      rw [if_pos (mj_ib_of (by omega) (by omega)), if_pos (mj_ib_of (by omega) (by omega)), t1, hs, Option.bind_some]
      have ee : a.2.2.2.2.2.1 (s + 1) - a.2.2.2.2.2.1 s = b.2.2.2.2.1 s := i_eq.mpr (by rw [i_sub (by omega) (by omega), G1.1, G1.2.1, G2.1]; omega)
      rw [ee]
    · rw [if_neg c0, if_pos n7, if_neg c7, if_neg c8, if_pos hi, hs]
theorem qq_state (F : Nat) (hF : 2100 ≤ F) {I : mj_IT} (hp : pK (I 18) (I 19) (I 20) (I 21) (I 22) (I 23) (I 24) (I 25) (I 26) (I 73)) (ht : tens (I 87)) (hw : ∃ a b, lQ I a b ∧ exG F I = some a ∧ lyG F I (rL I (upd (I 71) 0 0)) = some b ∧ b.1 0 = 0 ∧ ((gX I a b ∧ a.1 6 = 0 ∧ b.1 21 = 0 ∧ nsG F I = some (.inl (a.1, a.2.1, a.2.2.1, a.2.2.2.1, a.2.2.2.2.1, a.2.2.2.2.2.1, a.2.2.2.2.2.2.1, a.2.2.2.2.2.2.2.1, a.2.2.2.2.2.2.2.2, I 70)) ∧ fwG F I = some (1, b.1, I 72, b.2)) ∨ (a.1 6 = 1 ∧ b.1 21 = 1 ∧ nsG F I = some (.inr (2, a.1, a.2.1, a.2.2.1, a.2.2.2.1, a.2.2.2.2.1, a.2.2.2.2.2.1, a.2.2.2.2.2.2.1, a.2.2.2.2.2.2.2.1, a.2.2.2.2.2.2.2.2, upd (I 70) 2 (I 70 2 + 1))) ∧ fwG F I = some (0, upd b.1 0 1, upd (I 72) 2 (I 72 2 + 1), b.2)))) (x1 x2 : Int32) :
    ∃ (a : T9) (b : T8), lQ I a b ∧ b.1 0 = 0 ∧ ((∃ v : Int32, fnX10_state F (I 1) (I 18) (I 19) (I 20) (I 21) (I 22) (I 23) (I 24) (I 25) (I 26) (I 32) (I 33) (I 34) (I 35) (I 36) (I 37) (I 38) (I 39) (I 40) (I 70) x1 x2 = some (.inl (v, a.1, a.2.1, a.2.2.1, a.2.2.2.1, a.2.2.2.2.1, a.2.2.2.2.2.1, a.2.2.2.2.2.2.1, a.2.2.2.2.2.2.2.1, a.2.2.2.2.2.2.2.2, I 70)) ∧ fnX11_state F (I 71) (I 72) (I 73) (I 75) (I 80) (I 81) (I 82) (I 83) (I 84) (I 85) (I 86) (I 87) x1 x2 = some (v, b.1, I 72, b.2)) ∨ (∃ (k : Nat) (e : Int32) (t : Nat), ok_state k = true ∧ wk_state k = e ∧ ¬ e = 0 ∧ t < 3 ∧ fnX10_state F (I 1) (I 18) (I 19) (I 20) (I 21) (I 22) (I 23) (I 24) (I 25) (I 26) (I 32) (I 33) (I 34) (I 35) (I 36) (I 37) (I 38) (I 39) (I 40) (I 70) x1 x2 = some (.inr (k, a.1, a.2.1, a.2.2.1, a.2.2.2.1, a.2.2.2.2.1, a.2.2.2.2.2.1, a.2.2.2.2.2.2.1, a.2.2.2.2.2.2.2.1, a.2.2.2.2.2.2.2.2, upd (I 70) t (I 70 t + 1))) ∧ fnX11_state F (I 71) (I 72) (I 73) (I 75) (I 80) (I 81) (I 82) (I 83) (I 84) (I 85) (I 86) (I 87) x1 x2 = some (0, upd b.1 0 e, upd (I 72) t (I 72 t + 1), b.2))) := by
  obtain ⟨a, b, hl, ha, hb, b0, hd⟩ := hw
  refine ⟨a, b, hl, b0, ?_⟩
  rcases hd with ⟨⟨n, fr, na, tg, sh, hG⟩, m1, m2, hn, hf⟩ | ⟨m1, m2, hn, hf⟩
  · obtain ⟨⟨y1, y2, y3, y4⟩, ⟨z1, z2, z3, z4, z5, z6⟩, gs, gd, gc, gr, gh, g25, gce, gct, g37, gt⟩ := id hG
    by_cases h1 : 0 ≤ x1.toInt ∧ x1.toInt < (n : Int)
    · have i1 : fnX10_needState F a.1 (I 70) x1 = some (.inl (I 70)) := q_sta_in F a.1 (I 70) (by rw [y3]; exact h1)
      have j1 : fnX11_isState F b.1 x1 = some 1 := q_isSta_in F (by rw [y4]; omega) (by rw [y4]; exact h1)
      by_cases h2 : 0 ≤ x2.toInt ∧ x2.toInt ≤ 9
      · left
        obtain ⟨s, hs⟩ : ∃ s, x1.toNatClampNeg = s := ⟨_, rfl⟩
        have hsn : s < n := by rw [← hs, i_cl]; omega
        have hsx : x1.toInt = (s : Nat) := by rw [← hs, i_cl]; omega
        have hi : mj_ib x1 200 = true := mj_ib_of (by omega) (by omega)
        obtain ⟨D1, D2, D3, D4⟩ := gs s hsn
        have XX := h_state_c F hn i1 (q_num_in F (I 70) (a := 0) (b := 9) h2)
        have RR := h_state_r F hf j1 b0 (q_lies3_in F (a := 0) (b := 9) h2)
        rw [XX, RR]
        exact q_state_v F y2 hi hs hsx hsn D1 D2 D3 (gc s hsn) (gr s hsn) ((gt s hsn).2.2.2) ht h2
      · right
        refine ⟨1, 3, 1, rfl, rfl, by decide, by decide, ?_, ?_⟩
        · unfold fnX10_state
          change (nsG F I).bind _ = _
          rw [hn, Option.bind_some, Sum.elim_inl]
          change (fnX10_needState F a.1 (I 70) x1).bind _ = _
          rw [i1, Option.bind_some, Sum.elim_inl, q_num_out F (I 70) (a := 0) (b := 9) h2]
          rfl
        · unfold fnX11_state
          change (fwG F I).bind _ = _
          rw [hf, Option.bind_some, if_neg (show ¬ (1 : Int32) = 0 from by decide)]
          change (fnX11_isState F b.1 x1).bind _ = _
          rw [j1, Option.bind_some]
          change (fnX11_isFine F b.1 (I 72) 1 2 0).bind _ = _
          rw [q_fine F b0, Option.bind_some, if_neg (show ¬ (1 : Int32) = 0 from by decide), q_lies3_out F (a := 0) (b := 9) h2, Option.bind_some]
          change (fnX11_isFine F b.1 (I 72) 0 3 1).bind _ = _
          rw [q_fine0 F b0 (show ¬ (3 : Int32) = 0 from by decide) (by decide), Option.bind_some, if_pos rfl]
          rfl
    · right
      refine ⟨0, 2, 0, rfl, rfl, by decide, by decide, ?_, ?_⟩
      · unfold fnX10_state
        change (nsG F I).bind _ = _
        rw [hn, Option.bind_some, Sum.elim_inl]
        change (fnX10_needState F a.1 (I 70) x1).bind _ = _
        rw [q_sta_out F a.1 (I 70) (by rw [y3]; exact h1)]
        rfl
      · unfold fnX11_state
        change (fwG F I).bind _ = _
        rw [hf, Option.bind_some, if_neg (show ¬ (1 : Int32) = 0 from by decide)]
        change (fnX11_isState F b.1 x1).bind _ = _
        rw [q_isSta_out F (by rw [y4]; omega) (by rw [y4]; exact h1), Option.bind_some]
        change (fnX11_isFine F b.1 (I 72) 0 2 0).bind _ = _
        rw [q_fine0 F b0 (show ¬ (2 : Int32) = 0 from by decide) (by decide), Option.bind_some, if_pos rfl]
        rfl
  · right
    refine ⟨2, 1, 2, rfl, rfl, by decide, by decide, ?_, ?_⟩
    · unfold fnX10_state
      change (nsG F I).bind _ = _
      rw [hn]
      rfl
    · unfold fnX11_state
      change (fwG F I).bind _ = _
      rw [hf, Option.bind_some, if_pos rfl]
theorem b_state (F : Nat) (hF : 2100 ≤ F) {Inv : Nat → mj_IT → mj_LT → Prop} (hK : kG F Inv) : pb_state F Inv := by
  intro j hj I L hI x1 x2
  obtain ⟨hr, hp, h4, hv, hf⟩ := hK.1.2 j I L hj hI
  obtain ⟨hQ, ht, h9, h17⟩ := hK.2.2 j I L hj hI
  obtain ⟨a, b, hl, b0, hd⟩ := qq_state F hF hp ht (q_few (gQ_go F hF hp h4 ht hv hQ)) _ _
  rcases hd with ⟨v, q1, q2⟩ | ⟨k, e, t, o1, o2, o3, o4, q1, q2⟩
  · refine ⟨.inl (v, mj_rows I [(1, I 1), (18, I 18), (19, I 19), (20, I 20), (21, I 21), (22, I 22), (23, I 23), (24, I 24), (25, I 25), (26, I 26), (32, a.1), (33, a.2.1), (34, a.2.2.1), (35, a.2.2.2.1), (36, a.2.2.2.2.1), (37, a.2.2.2.2.2.1), (38, a.2.2.2.2.2.2.1), (39, a.2.2.2.2.2.2.2.1), (40, a.2.2.2.2.2.2.2.2), (70, I 70)], L), v, 0, mj_rows (mj_rows I [(1, I 1), (18, I 18), (19, I 19), (20, I 20), (21, I 21), (22, I 22), (23, I 23), (24, I 24), (25, I 25), (26, I 26), (32, a.1), (33, a.2.1), (34, a.2.2.1), (35, a.2.2.2.1), (36, a.2.2.2.2.1), (37, a.2.2.2.2.2.1), (38, a.2.2.2.2.2.2.1), (39, a.2.2.2.2.2.2.2.1), (40, a.2.2.2.2.2.2.2.2), (70, I 70)]) [(71, b.1), (72, I 72), (73, I 73), (75, I 75), (80, b.2.1), (81, b.2.2.1), (82, b.2.2.2.1), (83, b.2.2.2.2.1), (84, b.2.2.2.2.2.1), (85, b.2.2.2.2.2.2.1), (86, b.2.2.2.2.2.2.2), (87, I 87)], mj_rows (mj_rows (mj_rows I [(1, I 1), (18, I 18), (19, I 19), (20, I 20), (21, I 21), (22, I 22), (23, I 23), (24, I 24), (25, I 25), (26, I 26), (32, a.1), (33, a.2.1), (34, a.2.2.1), (35, a.2.2.2.1), (36, a.2.2.2.2.1), (37, a.2.2.2.2.2.1), (38, a.2.2.2.2.2.2.1), (39, a.2.2.2.2.2.2.2.1), (40, a.2.2.2.2.2.2.2.2), (70, I 70)]) [(71, b.1), (72, I 72), (73, I 73), (75, I 75), (80, b.2.1), (81, b.2.2.1), (82, b.2.2.2.1), (83, b.2.2.2.2.1), (84, b.2.2.2.2.2.1), (85, b.2.2.2.2.2.2.1), (86, b.2.2.2.2.2.2.2), (87, I 87)]) [(71, b.1)], va_up L 98 (vp_updL (L 98) 0 v.toInt64), va_up L 98 (vp_updL (L 98) 0 v.toInt64), ?_, ?_, ?_, ?_, rfl, fun _ => rfl, ?_⟩
    · unfold stX10_state; rw [q1]; rfl
    · intro q hq; cases hq
    · show (fnX11_state F (I 71) (I 72) (I 73) (I 75) (I 80) (I 81) (I 82) (I 83) (I 84) (I 85) (I 86) (I 87) x1 x2).map _ = _
      rw [q2]; rfl
    · show some (b.1 0, _, _) = _
      rw [b0]; rfl
    · refine hK.2.1 j I L _ _ hj hI ?_ (frL_up L _) hr
      refine fr_go hQ.1 (fun z => (hQ.2.2.1 z).1) hl (fun x x1 x2 x3 => ?_) rfl rfl (fun k hk => rfl)
      rw [rw_k _ _ x (by refine ⟨fun z => ?_, trivial⟩ <;> (dsimp only at z; first | (exfalso; omega) | (subst z; rfl))), rw_k _ _ x (by refine ⟨fun z => ?_, fun z => ?_, fun z => ?_, fun z => ?_, fun z => ?_, fun z => ?_, fun z => ?_, fun z => ?_, fun z => ?_, fun z => ?_, fun z => ?_, fun z => ?_, trivial⟩ <;> (dsimp only at z; first | (exfalso; omega) | (subst z; rfl))), rw_k _ _ x (by refine ⟨fun z => ?_, fun z => ?_, fun z => ?_, fun z => ?_, fun z => ?_, fun z => ?_, fun z => ?_, fun z => ?_, fun z => ?_, fun z => ?_, fun z => ?_, fun z => ?_, fun z => ?_, fun z => ?_, fun z => ?_, fun z => ?_, fun z => ?_, fun z => ?_, fun z => ?_, fun z => ?_, trivial⟩ <;> (dsimp only at z; first | (exfalso; omega) | (subst z; rfl)))]
  · refine ⟨.inr (k, mj_rows I [(1, I 1), (18, I 18), (19, I 19), (20, I 20), (21, I 21), (22, I 22), (23, I 23), (24, I 24), (25, I 25), (26, I 26), (32, a.1), (33, a.2.1), (34, a.2.2.1), (35, a.2.2.2.1), (36, a.2.2.2.2.1), (37, a.2.2.2.2.2.1), (38, a.2.2.2.2.2.2.1), (39, a.2.2.2.2.2.2.2.1), (40, a.2.2.2.2.2.2.2.2), (70, upd (I 70) t (I 70 t + 1))], L), 0, e, mj_rows (mj_rows I [(1, I 1), (18, I 18), (19, I 19), (20, I 20), (21, I 21), (22, I 22), (23, I 23), (24, I 24), (25, I 25), (26, I 26), (32, a.1), (33, a.2.1), (34, a.2.2.1), (35, a.2.2.2.1), (36, a.2.2.2.2.1), (37, a.2.2.2.2.2.1), (38, a.2.2.2.2.2.2.1), (39, a.2.2.2.2.2.2.2.1), (40, a.2.2.2.2.2.2.2.2), (70, upd (I 70) t (I 70 t + 1))]) [(71, upd b.1 0 e), (72, upd (I 72) t (I 72 t + 1)), (73, I 73), (75, I 75), (80, b.2.1), (81, b.2.2.1), (82, b.2.2.2.1), (83, b.2.2.2.2.1), (84, b.2.2.2.2.2.1), (85, b.2.2.2.2.2.2.1), (86, b.2.2.2.2.2.2.2), (87, I 87)], mj_rows (mj_rows (mj_rows I [(1, I 1), (18, I 18), (19, I 19), (20, I 20), (21, I 21), (22, I 22), (23, I 23), (24, I 24), (25, I 25), (26, I 26), (32, a.1), (33, a.2.1), (34, a.2.2.1), (35, a.2.2.2.1), (36, a.2.2.2.2.1), (37, a.2.2.2.2.2.1), (38, a.2.2.2.2.2.2.1), (39, a.2.2.2.2.2.2.2.1), (40, a.2.2.2.2.2.2.2.2), (70, upd (I 70) t (I 70 t + 1))]) [(71, upd b.1 0 e), (72, upd (I 72) t (I 72 t + 1)), (73, I 73), (75, I 75), (80, b.2.1), (81, b.2.2.1), (82, b.2.2.2.1), (83, b.2.2.2.2.1), (84, b.2.2.2.2.2.1), (85, b.2.2.2.2.2.2.1), (86, b.2.2.2.2.2.2.2), (87, I 87)]) [(71, upd b.1 0 e)], L, L, ?_, ?_, ?_, rfl, ?_, ?_, ?_⟩
    · unfold stX10_state; rw [q1]; rfl
    · intro q hq; cases hq; exact o1
    · show (fnX11_state F (I 71) (I 72) (I 73) (I 75) (I 80) (I 81) (I 82) (I 83) (I 84) (I 85) (I 86) (I 87) x1 x2).map _ = _
      rw [q2]; rfl
    · exact o2.symm
    · intro z; exact absurd (o2.symm.trans z) o3
    · refine hK.2.1 j I L _ _ hj hI ?_ (fun _ _ => rfl) (rf_up hr o4)
      refine fr_go hQ.1 (fun z => (hQ.2.2.1 z).1) hl (fun x x1 x2 x3 => ?_) rfl rfl (fun k hk => upd_ne hk)
      rw [rw_k _ _ x (by refine ⟨fun z => ?_, trivial⟩ <;> (dsimp only at z; first | (exfalso; omega) | (subst z; rfl))), rw_k _ _ x (by refine ⟨fun z => ?_, fun z => ?_, fun z => ?_, fun z => ?_, fun z => ?_, fun z => ?_, fun z => ?_, fun z => ?_, fun z => ?_, fun z => ?_, fun z => ?_, fun z => ?_, trivial⟩ <;> (dsimp only at z; first | (exfalso; omega) | (subst z; rfl))), rw_k _ _ x (by refine ⟨fun z => ?_, fun z => ?_, fun z => ?_, fun z => ?_, fun z => ?_, fun z => ?_, fun z => ?_, fun z => ?_, fun z => ?_, fun z => ?_, fun z => ?_, fun z => ?_, fun z => ?_, fun z => ?_, fun z => ?_, fun z => ?_, fun z => ?_, fun z => ?_, fun z => ?_, fun z => ?_, trivial⟩ <;> (dsimp only at z; first | (exfalso; omega) | (subst z; rfl)))]
