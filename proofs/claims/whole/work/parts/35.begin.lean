/-! ===== the exploring begins, and what is counted behind it ===== -/
theorem s_fill40 (F : Nat) (hF : 600 ≤ F) (r40 : Nat → Int32) : sp (fnJ7_fill_53178_40 F r40 0) (fun e => ∀ j, j < 512 → e j = 0) := by
  have e0 : (0 : Int32).toInt = 0 := rfl
  have e1 : (1 : Int32).toInt = 1 := rfl
  have e512 : (512 : Int32).toInt = 512 := rfl
  unfold fnJ7_fill_53178_40
  refine sp_bind (sp_it (J := fun s : Int32 × (Nat → Int32) => ∃ i : Nat, i ≤ 512 ∧ s.1.toInt = (i : Nat) ∧ ∀ u, u < i → s.2 u = 0) (Q := fun e : Nat → Int32 => ∀ j, j < 512 → e j = 0) (fun s => (550 - s.1.toInt).toNat) ?_ F _ ?_ ?_) (fun c hc => sp_some hc)
  · rintro ⟨x, a⟩ ⟨i, i1, i2, i3⟩
    refine sp_u2 ?_
    dsimp only at i2 i3
    have hcx : x.toNatClampNeg = i := by rw [i_cl, i2]; rfl
    have hx1 : (x + 1).toInt = ((i + 1 : Nat) : Int) := by rw [i_add (by omega) (by omega), i2, e1]; omega
    have hmu : (550 - (x + 1).toInt).toNat < (550 - x.toInt).toNat := by rw [hx1, i2]; omega
    unfold bdJ7_fill_53178_40_5
    refine sp_ite (fun hz => sp_some ?_) (fun hz => ?_)
    · have := i_le.mp hz
      have : i = 512 := by omega
      subst this
      exact i3
    · have hz2 : ¬ (512 : Int32).toInt ≤ x.toInt := fun z => hz (i_le.mpr z)
      have hi : i < 512 := by omega
      refine sp_pos (mj_ib_of (by omega) (by omega)) (sp_some ⟨⟨i + 1, hi, hx1, fun u hu => ?_⟩, hmu⟩)
      dsimp only
      rw [hcx]
      by_cases hui : u = i
      · rw [hui, upd_at]
      · rw [upd_ne hui]; exact i3 u (by omega)
  · exact ⟨0, by omega, e0, fun u hu => absurd hu (Nat.not_lt_zero u)⟩
  · show (550 - (0 : Int32).toInt).toNat < F
    rw [e0]; omega
theorem cz_all {r : Nat → Int32} : ∀ N, (∀ j, j < N → r j = 0) → cz r N = N := by
  intro N
  induction N with
  | zero => intro _; rfl
  | succ N ih =>
    intro h
    unfold cz
    rw [ih (fun j hj => h j (by omega)), if_pos (h N (by omega))]
theorem hQ_0 {r33 r34 r40 : Nat → Int32} (h : ∀ j, j < 512 → r40 j = 0) : hQ 0 r33 r34 r40 := by
  refine ⟨fun j hj => ?_, fun s hs => absurd hs (Nat.not_lt_zero s), ?_, fun s s' hs => absurd hs (Nat.not_lt_zero s)⟩
  · rw [h j hj]; exact ⟨by decide, by decide⟩
  · rw [cz_all 512 h]
/-- the first values, as digits and as a number -/
def vQ (V : Int32) (r75 : Nat → Int32) : Prop := sx V ∧ ∀ v, v < 6 → r75 v = dgt V v
def p10 (j : Nat) : Int := match j with
  | 0 => 1000000
  | 1 => 100000
  | 2 => 10000
  | 3 => 1000
  | 4 => 100
  | 5 => 10
  | _ => 1
theorem s11_all (F : Nat) (hF : 600 ≤ F) {V : Int32} {r75 r87 : Nat → Int32} (ht : tens r87) (hv : vQ V r75) : sp (mj_it (mj_u2 (fun z0 z1 => bdX11_lays_32 F r75 r87 z0 z1)) F ((0 : Int32), (0 : Int32))) (fun x => x = V) := by
  have e0 : (0 : Int32).toInt = 0 := rfl
  have e1 : (1 : Int32).toInt = 1 := rfl
  have e6 : (6 : Int32).toInt = 6 := rfl
  obtain ⟨⟨v0, v1⟩, v2⟩ := hv
  refine sp_it (J := fun s : Int32 × Int32 => ∃ j : Nat, j ≤ 6 ∧ s.2.toInt = (j : Nat) ∧ s.1.toInt = V.toInt / p10 j * p10 j) (fun s => (10 - s.2.toInt).toNat) ?_ F _ ?_ ?_
  · rintro ⟨x, y⟩ ⟨j, j1, j2, j3⟩
    refine sp_u2 ?_
    dsimp only at j2 j3
    have hy1 : (y + 1).toInt = ((j + 1 : Nat) : Int) := by rw [i_add (by omega) (by omega), j2, e1]; omega
    have hmu : (10 - (y + 1).toInt).toNat < (10 - y.toInt).toNat := by rw [hy1, j2]; omega
    unfold bdX11_lays_32
    refine sp_ite (fun hz => sp_some ?_) (fun hz => ?_)
    · have := i_le.mp hz
      have : j = 6 := by omega
      subst this
      apply i_eq.mpr
      rw [j3]
      simp only [p10]
      omega
    · have hz2 : ¬ (6 : Int32).toInt ≤ y.toInt := fun z => hz (i_le.mpr z)
      have hj : j < 6 := by omega
      have hcy : y.toNatClampNeg = j := by rw [i_cl, j2]; rfl
      have hd := dgt_i (x := V) v0 j
      have hdb := dgt_b (x := V) v0 j
      have hxs : sx x := by
        unfold sx
        rw [j3]
        have : j = 0 ∨ j = 1 ∨ j = 2 ∨ j = 3 ∨ j = 4 ∨ j = 5 := by omega
        rcases this with rfl | rfl | rfl | rfl | rfl | rfl <;> simp only [p10] <;> omega
      refine sp_pos (mj_ib_of (by omega) (by omega)) ?_
      rw [hcy, v2 j hj, g_with F ht x (dgt V j) (v := y) ⟨by omega, by omega⟩, Option.bind_some, hcy]
      refine sp_some ⟨⟨j + 1, hj, hy1, ?_⟩, hmu⟩
      dsimp only
      rw [(pt_i hxs hdb j).1, hd, j3]
      have : j = 0 ∨ j = 1 ∨ j = 2 ∨ j = 3 ∨ j = 4 ∨ j = 5 := by omega
      rcases this with rfl | rfl | rfl | rfl | rfl | rfl <;> simp only [p10, un] <;> omega
  · refine ⟨0, by omega, e0, ?_⟩
    show (0 : Int32).toInt = V.toInt / 1000000 * 1000000
    rw [e0]; omega
  · show (10 - (0 : Int32).toInt).toNat < F
    rw [e0]; omega
def ce (r33 : Nat → Int32) (c : Int32) : Nat → Nat
  | 0 => 0
  | N + 1 => ce r33 c N + if r33 N = c then 1 else 0
theorem ce_le (r : Nat → Int32) (c : Int32) : ∀ N, ce r c N ≤ N := by
  intro N
  induction N with
  | zero => exact Nat.le_refl 0
  | succ N ih => unfold ce; split <;> omega
theorem s4_ends (F : Nat) (hF : 600 ≤ F) {n : Nat} (hn : n ≤ 200) {r32 r33 : Nat → Int32} (h2 : (r32 2).toInt = (n : Nat)) : sp (mj_it (mj_u2 (fun z0 z1 => bdX4_explore_127 F r33 z0 z1)) F ((0 : Int32), (upd r32 4 (0 : Int32)))) (fun e => (∀ k, k ≠ 4 → e k = r32 k) ∧ (e 4).toInt = (ce r33 (r32 7) n : Nat)) := by
  have e0 : (0 : Int32).toInt = 0 := rfl
  have e1 : (1 : Int32).toInt = 1 := rfl
  refine sp_it (J := fun s : Int32 × (Nat → Int32) => ∃ i : Nat, i ≤ n ∧ s.1.toInt = (i : Nat) ∧ (∀ k, k ≠ 4 → s.2 k = r32 k) ∧ (s.2 4).toInt = (ce r33 (r32 7) i : Nat)) (fun s => (300 - s.1.toInt).toNat) ?_ F _ ?_ ?_
  · rintro ⟨x, a⟩ ⟨i, i1, i2, i3, i4⟩
    refine sp_u2 ?_
    dsimp only at i2 i3 i4
    have hcx : x.toNatClampNeg = i := by rw [i_cl, i2]; rfl
    have hx1 : (x + 1).toInt = ((i + 1 : Nat) : Int) := by rw [i_add (by omega) (by omega), i2, e1]; omega
    have hmu : (300 - (x + 1).toInt).toNat < (300 - x.toInt).toNat := by rw [hx1, i2]; omega
    have k2 := i3 2 (by decide)
    have k7 := i3 7 (by decide)
    have hcl := ce_le r33 (r32 7) i
    unfold bdX4_explore_127
    rw [k2]
    refine sp_ite (fun hz => sp_some ?_) (fun hz => ?_)
    · have := i_le.mp hz
      have : i = n := by omega
      subst this
      exact ⟨i3, i4⟩
    · have hz2 : ¬ (r32 2).toInt ≤ x.toInt := fun z => hz (i_le.mpr z)
      have hi : i < n := by omega
      unfold fnX4_isEnd
      rw [if_pos (mj_ib_of (by omega) (by omega)), hcx, k7]
      have hs : ce r33 (r32 7) (i + 1) = ce r33 (r32 7) i + if r33 i = r32 7 then 1 else 0 := rfl
      by_cases q : r33 i = r32 7
      · rw [if_pos q, Option.bind_some, if_neg (show ¬ (1 : Int32) = 0 from by decide)]
        refine sp_some ⟨⟨i + 1, hi, hx1, fun k hk => ?_, ?_⟩, hmu⟩
        · dsimp only; rw [upd_ne hk]; exact i3 k hk
        · dsimp only
          rw [upd_at, hs, if_pos q, i_add (by rw [e1]; omega) (by rw [e1]; omega), e1]; omega
      · rw [if_neg q, Option.bind_some, if_pos rfl]
        refine sp_some ⟨⟨i + 1, hi, hx1, fun k hk => ?_, ?_⟩, hmu⟩
        · dsimp only; rw [upd_ne hk]; exact i3 k hk
        · dsimp only
          rw [upd_at, hs, if_neg q, i_add (by rw [e0]; omega) (by rw [e0]; omega), e0]; omega
  · exact ⟨0, by omega, e0, fun k hk => upd_ne hk, by dsimp only; rw [upd_at]; rfl⟩
  · show (300 - (0 : Int32).toInt).toNat < F
    rw [e0]; omega
