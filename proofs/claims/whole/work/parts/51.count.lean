/-! ===== what told counts ===== -/
theorem s11_cEnd (F : Nat) (hF : 600 ≤ F) {n : Nat} (hn : n ≤ 200) {r71 r80 r33 : Nat → Int32} {c : Int32} (h24 : (r71 24).toInt = (n : Nat)) (h80 : ∀ s, s < n → r80 s = r33 s) (hc : c = r71 4) : sp (mj_it (mj_u2 (fun z0 z1 => bdX11_told_104 F r71 r80 z0 z1)) F ((0 : Int32), (0 : Int32))) (fun x => x.toInt = (ce r33 c n : Nat)) := by
  have e0 : (0 : Int32).toInt = 0 := rfl
  have e1 : (1 : Int32).toInt = 1 := rfl
  refine sp_it (J := fun s : Int32 × Int32 => ∃ i : Nat, i ≤ n ∧ s.2.toInt = (i : Nat) ∧ s.1.toInt = (ce r33 c i : Nat)) (Q := fun x : Int32 => x.toInt = (ce r33 c n : Nat)) (fun s => (300 - s.2.toInt).toNat) ?_ F _ ?_ ?_
  · rintro ⟨y, x⟩ ⟨i, i1, i2, i3⟩
    refine sp_u2 ?_
    dsimp only at i2 i3
    have hcx : x.toNatClampNeg = i := by rw [i_cl, i2]; rfl
    have hx1 : (x + 1).toInt = ((i + 1 : Nat) : Int) := by rw [i_add (by omega) (by omega), i2, e1]; omega
    have hmu : (300 - (x + 1).toInt).toNat < (300 - x.toInt).toNat := by rw [hx1, i2]; omega
    have hle := ce_le r33 c i
    have hsm : ce r33 c (i + 1) = ce r33 c i + if r33 i = c then 1 else 0 := rfl
    unfold bdX11_told_104
    refine sp_ite (fun hz => sp_some ?_) (fun hz => ?_)
    · have := i_le.mp hz
      have : i = n := by omega
      subst this
      exact i3
    · have hz2 : ¬ (r71 24).toInt ≤ x.toInt := fun z => hz (i_le.mpr z)
      have hi : i < n := by omega
      have hix : mj_ib x 200 = true := mj_ib_of (by omega) (by omega)
      unfold fnX11_isEnd
      rw [if_pos hix, hcx, h80 i hi]
      by_cases q : r33 i = r71 4
      · rw [if_pos q, Option.bind_some, if_neg (show ¬ (1 : Int32) = 0 from by decide)]
        refine sp_some ⟨⟨i + 1, hi, hx1, ?_⟩, hmu⟩
        dsimp only
        rw [i_add (by omega) (by omega), i3, e1, hsm, if_pos (q.trans hc.symm)]
        omega
      · rw [if_neg q, Option.bind_some, if_pos rfl]
        refine sp_some ⟨⟨i + 1, hi, hx1, ?_⟩, hmu⟩
        dsimp only
        rw [i_add (by omega) (by omega), i3, e0, hsm, if_neg (fun z => q (z.trans hc))]
        omega
  · exact ⟨0, by omega, e0, rfl⟩
  · show (300 - (0 : Int32).toInt).toNat < F
    rw [e0]; omega
theorem s11_cTrap (F : Nat) (hF : 600 ≤ F) {n : Nat} (hn : n ≤ 200) {r71 r86 r36 : Nat → Int32} (h24 : (r71 24).toInt = (n : Nat)) (h86 : ∀ s, s < n → (¬ r86 s = 0 ↔ r36 s = 0)) : sp (mj_it (mj_u2 (fun z0 z1 => bdX11_told_138 F r71 r86 z0 z1)) F ((0 : Int32), (0 : Int32))) (fun x => x.toInt = (ct r36 n : Nat)) := by
  have e0 : (0 : Int32).toInt = 0 := rfl
  have e1 : (1 : Int32).toInt = 1 := rfl
  refine sp_it (J := fun s : Int32 × Int32 => ∃ i : Nat, i ≤ n ∧ s.2.toInt = (i : Nat) ∧ s.1.toInt = (ct r36 i : Nat)) (Q := fun x : Int32 => x.toInt = (ct r36 n : Nat)) (fun s => (300 - s.2.toInt).toNat) ?_ F _ ?_ ?_
  · rintro ⟨y, x⟩ ⟨i, i1, i2, i3⟩
    refine sp_u2 ?_
    dsimp only at i2 i3
    have hcx : x.toNatClampNeg = i := by rw [i_cl, i2]; rfl
    have hx1 : (x + 1).toInt = ((i + 1 : Nat) : Int) := by rw [i_add (by omega) (by omega), i2, e1]; omega
    have hmu : (300 - (x + 1).toInt).toNat < (300 - x.toInt).toNat := by rw [hx1, i2]; omega
    have hle := ct_le r36 i
    have hsm : ct r36 (i + 1) = ct r36 i + if r36 i = 0 then 0 else 1 := rfl
    unfold bdX11_told_138
    refine sp_ite (fun hz => sp_some ?_) (fun hz => ?_)
    · have := i_le.mp hz
      have : i = n := by omega
      subst this
      exact i3
    · have hz2 : ¬ (r71 24).toInt ≤ x.toInt := fun z => hz (i_le.mpr z)
      have hi : i < n := by omega
      have hix : mj_ib x 200 = true := mj_ib_of (by omega) (by omega)
      rw [if_pos hix, hcx]
      by_cases q : r86 i = 0
      · rw [if_pos q]
        refine sp_some ⟨⟨i + 1, hi, hx1, ?_⟩, hmu⟩
        dsimp only
        rw [i_add (by omega) (by omega), i3, e1, hsm, if_neg (fun z => (h86 i hi).mpr z q)]
        omega
      · rw [if_neg q]
        refine sp_some ⟨⟨i + 1, hi, hx1, ?_⟩, hmu⟩
        dsimp only
        rw [i_add (by omega) (by omega), i3, e0, hsm, if_pos ((h86 i hi).mp q)]
        omega
  · exact ⟨0, by omega, e0, rfl⟩
  · show (300 - (0 : Int32).toInt).toNat < F
    rw [e0]; omega
