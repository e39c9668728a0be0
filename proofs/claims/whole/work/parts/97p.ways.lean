/-! ===== the text: the ways between the statements ===== -/
/-- what a way of the reference means, if B is where each statement leads behind it and C is the end -/
def rho (B : Nat → Int) (C : Int) (v : Int32) : Int := if v.toInt ≤ -100 then B (-100 - v.toInt).toNat else if v.toInt = -3 then C else if v.toInt = -2 then C + 1 else v.toInt
theorem rho_n (B : Nat → Int) (C : Int) {v : Int32} (h : 0 ≤ v.toInt) : rho B C v = v.toInt := by
  unfold rho
  rw [if_neg (by omega), if_neg (by omega), if_neg (by omega)]
theorem i_100 {x : Int32} {k : Nat} (hx : x.toInt = (k : Nat)) (hk : k < 1000) : (-100 - x).toInt = -100 - (k : Int) := by
  have e : (-100 : Int32).toInt = -100 := rfl
  rw [i_sub (by rw [e]; omega) (by rw [e]; omega), e, hx]
theorem rho_b (B : Nat → Int) (C : Int) {x : Int32} {k : Nat} (hx : x.toInt = (k : Nat)) (hk : k < 1000) : rho B C (-100 - x) = B k := by
  have := i_100 hx hk
  unfold rho
  have e : (-100 - (-100 - (k : Int))).toNat = k := by omega
  rw [if_pos (by omega), this, e]
theorem rho_3 (B : Nat → Int) (C : Int) : rho B C (-3) = C := rfl
/-- joins keeps the meaning -/
theorem rho_j (B : Nat → Int) (C : Int) {K m l : Nat} {x1 x2 : Int32} {r : Nat → Int32} (hx : x1.toInt = (l : Nat)) (hl : l < 1000) (h : rho B C x2 = B l) : rho B C (jnv K (-100 - x1) x2 r m) = rho B C (r m) := by
  unfold jnv
  by_cases z : (m % 12 = 3 ∨ m % 12 = 4) ∧ m / 12 < K ∧ r m = -100 - x1
  · rw [if_pos z, h, z.2.2, rho_b B C hx hl]
  · rw [if_neg z]
/-- where an ended statement leads -/
def eb (c : Nat → Nat → Int32) (B : Nat → Int) (C : Int) (k : Nat) : Int := if c 13 k = -1 then C else if c 5 (c 13 k).toInt.toNat = 4 then (c 13 k).toInt else B (c 13 k).toInt.toNat
def Cons (c : Nat → Nat → Int32) (d K : Nat) (B : Nat → Int) (C : Int) : Prop := ∀ k, k < K → (¬ c 14 k = -1 → B k = (c 14 k).toInt) ∧ (c 14 k = -1 → (∀ e, e ≤ d → ¬ (c 16 e).toInt = (k : Nat)) → B k = eb c B C k)
def lnk (c : Nat → Nat → Int32) (r74 : Nat → Int32) (B : Nat → Int) (C : Int) (k : Nat) : Prop :=
  rho B C (r74 (12 * k + 3)) = (if c 5 k = 6 then C else if c 11 k = -1 then (if c 5 k = 4 then (k : Int) else B k) else (c 11 k).toInt) ∧
  (c 5 k = 2 ∨ c 5 k = 3 ∨ c 5 k = 4 → rho B C (r74 (12 * k + 4)) = (if c 12 k = -1 then B k else (c 12 k).toInt)) ∧ (c 5 k = 5 → r74 (12 * k + 4) = -2) ∧ (c 5 k = 0 ∨ c 5 k = 1 ∨ c 5 k = 6 → r74 (12 * k + 4) = -1) ∧ (¬ (c 5 k = 2 ∨ c 5 k = 3 ∨ c 5 k = 4) → c 12 k = -1)
/-- the ways agree, whatever comes behind -/
def LK (c : Nat → Nat → Int32) (r74 : Nat → Int32) (d K : Nat) : Prop := ∀ B C, Cons c d K B C → ∀ k, k < K → (∀ e, 1 ≤ e → e ≤ d → ¬ (c 15 e).toInt = (k : Nat)) → lnk c r74 B C k
/-- the class's stack of blocks -/
def stk (c : Nat → Nat → Int32) (d K : Nat) : Prop :=
  c 15 0 = -1 ∧ (∀ e, 1 ≤ e → e ≤ d → ∃ o : Nat, o < K ∧ (c 15 e).toInt = (o : Nat) ∧ (c 5 o = 2 ∨ c 5 o = 3 ∨ c 5 o = 4) ∧ c 16 (e - 1) = c 15 e ∧ (c 17 e = 0 ∨ c 17 e = 1) ∧ (c 17 e = 1 → ¬ c 5 o = 4)) ∧
  (∀ e, e ≤ d → c 16 e = -1 ∨ ∃ l : Nat, l < K ∧ (c 16 e).toInt = (l : Nat) ∧ c 14 l = -1 ∧ c 13 l = c 15 e) ∧
  (∀ k, k < K → c 13 k = -1 ∨ ∃ o : Nat, o < k ∧ (c 13 k).toInt = (o : Nat))
theorem i_m1 {x : Int32} {k : Nat} (h : x.toInt = (k : Nat)) : ¬ x = -1 := fun z => by
  have e : (-1 : Int32).toInt = -1 := rfl
  rw [z, e] at h
  omega
theorem cons_bgn {c c' : Nat → Nat → Int32} {d K : Nat} {i : Int32} {B : Nat → Int} {C : Int} (hs : stk c d K) (hK : (c 4 0).toInt = (K : Nat))
    (h5 : c' 5 = bgn c d K i 5) (h13 : c' 13 = bgn c d K i 13) (h14 : c' 14 = bgn c d K i 14) (h16 : c' 16 = bgn c d K i 16) (h : Cons c' d (K + 1) B C) :
    Cons c d K B C ∧ (∀ l : Nat, l < K → (c 16 d).toInt = (l : Nat) → B l = (K : Int)) := by
  obtain ⟨s1, s2, s3, s4⟩ := hs
  have e5 : ∀ k, k < K → c' 5 k = c 5 k := fun k hk => by rw [h5]; exact upd_ne (by omega)
  have e13 : ∀ k, k < K → c' 13 k = c 13 k := fun k hk => by rw [h13]; exact upd_ne (by omega)
  have e16 : ∀ e, e ≠ d → c' 16 e = c 16 e := fun e he => by rw [h16]; exact upd_ne he
  have e16d : (c' 16 d).toInt = (K : Nat) := by rw [h16]; show (upd (c 16) d (c 4 0) d).toInt = _; rw [upd_at]; exact hK
  have e14 : ∀ k, k < K → c' 14 k = bg14 (c 16 d) (c 4 0) (c 14) k := fun k hk => by rw [h14]; exact upd_ne (by omega)
  have e14l : ∀ l : Nat, l < K → (c 16 d).toInt = (l : Nat) → c' 14 l = c 4 0 := fun l hl hx => by
    rw [e14 l hl]
    unfold bg14
    rw [if_neg (i_m1 hx), i_cl, hx]
    exact upd_at
  have e14n : ∀ k, k < K → ¬ (c 16 d).toInt = (k : Nat) → c' 14 k = c 14 k := fun k hk hx => by
    rw [e14 k hk]
    unfold bg14
    by_cases z : c 16 d = -1
    · rw [if_pos z]
    · rw [if_neg z]
      rcases s3 d (Nat.le_refl d) with y | ⟨l, l1, l2, _⟩
      · exact absurd y z
      · rw [i_cl, l2]
        exact upd_ne (fun w => hx (by rw [l2, w]; rfl))
  refine ⟨fun k hk => ⟨fun z => ?_, fun z y => ?_⟩, fun l hl hx => ?_⟩
  · have hne : ¬ (c 16 d).toInt = (k : Nat) := fun w => by
      rcases s3 d (Nat.le_refl d) with y | ⟨l, l1, l2, l3, _⟩
      · exact i_m1 w y
      · have : l = k := by omega
        rw [this] at l3
        exact z l3
    rw [← e14n k hk hne]
    exact (h k (by omega)).1 (by rw [e14n k hk hne]; exact z)
  · have hne := y d (Nat.le_refl d)
    have := (h k (by omega)).2 (by rw [e14n k hk hne]; exact z) (fun e he w => by
      by_cases ed : e = d
      · rw [ed, e16d] at w
        omega
      · rw [e16 e ed] at w
        exact y e he w)
    rw [this]
    unfold eb
    rw [e13 k hk]
    rcases s4 k hk with w | ⟨o, o1, o2⟩
    · rw [if_pos w, if_pos w]
    · rw [o2, Int.toNat_natCast, e5 o (by omega)]
  · have := (h l (by omega)).1 (by rw [e14l l hl hx]; exact i_m1 hK)
    rw [this, e14l l hl hx, hK]
