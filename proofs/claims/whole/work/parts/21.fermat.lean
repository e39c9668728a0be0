/-! ===== the field: the prime, Fermat ===== -/
def pr_p (p : Nat) : Prop := 2 ≤ p ∧ ∀ d, 2 ≤ d → d < p → ¬ d ∣ p
theorem pr_c0 : ∀ d, d < 1000 → 998244353 % (2 + d) ≠ 0 := by decide +kernel
theorem pr_c1 : ∀ d, d < 1000 → 998244353 % (1002 + d) ≠ 0 := by decide +kernel
theorem pr_c2 : ∀ d, d < 1000 → 998244353 % (2002 + d) ≠ 0 := by decide +kernel
theorem pr_c3 : ∀ d, d < 1000 → 998244353 % (3002 + d) ≠ 0 := by decide +kernel
theorem pr_c4 : ∀ d, d < 1000 → 998244353 % (4002 + d) ≠ 0 := by decide +kernel
theorem pr_c5 : ∀ d, d < 1000 → 998244353 % (5002 + d) ≠ 0 := by decide +kernel
theorem pr_c6 : ∀ d, d < 1000 → 998244353 % (6002 + d) ≠ 0 := by decide +kernel
theorem pr_c7 : ∀ d, d < 1000 → 998244353 % (7002 + d) ≠ 0 := by decide +kernel
theorem pr_c8 : ∀ d, d < 1000 → 998244353 % (8002 + d) ≠ 0 := by decide +kernel
theorem pr_c9 : ∀ d, d < 1000 → 998244353 % (9002 + d) ≠ 0 := by decide +kernel
theorem pr_c10 : ∀ d, d < 1000 → 998244353 % (10002 + d) ≠ 0 := by decide +kernel
theorem pr_c11 : ∀ d, d < 1000 → 998244353 % (11002 + d) ≠ 0 := by decide +kernel
theorem pr_c12 : ∀ d, d < 1000 → 998244353 % (12002 + d) ≠ 0 := by decide +kernel
theorem pr_c13 : ∀ d, d < 1000 → 998244353 % (13002 + d) ≠ 0 := by decide +kernel
theorem pr_c14 : ∀ d, d < 1000 → 998244353 % (14002 + d) ≠ 0 := by decide +kernel
theorem pr_c15 : ∀ d, d < 1000 → 998244353 % (15002 + d) ≠ 0 := by decide +kernel
theorem pr_c16 : ∀ d, d < 1000 → 998244353 % (16002 + d) ≠ 0 := by decide +kernel
theorem pr_c17 : ∀ d, d < 1000 → 998244353 % (17002 + d) ≠ 0 := by decide +kernel
theorem pr_c18 : ∀ d, d < 1000 → 998244353 % (18002 + d) ≠ 0 := by decide +kernel
theorem pr_c19 : ∀ d, d < 1000 → 998244353 % (19002 + d) ≠ 0 := by decide +kernel
theorem pr_c20 : ∀ d, d < 1000 → 998244353 % (20002 + d) ≠ 0 := by decide +kernel
theorem pr_c21 : ∀ d, d < 1000 → 998244353 % (21002 + d) ≠ 0 := by decide +kernel
theorem pr_c22 : ∀ d, d < 1000 → 998244353 % (22002 + d) ≠ 0 := by decide +kernel
theorem pr_c23 : ∀ d, d < 1000 → 998244353 % (23002 + d) ≠ 0 := by decide +kernel
theorem pr_c24 : ∀ d, d < 1000 → 998244353 % (24002 + d) ≠ 0 := by decide +kernel
theorem pr_c25 : ∀ d, d < 1000 → 998244353 % (25002 + d) ≠ 0 := by decide +kernel
theorem pr_c26 : ∀ d, d < 1000 → 998244353 % (26002 + d) ≠ 0 := by decide +kernel
theorem pr_c27 : ∀ d, d < 1000 → 998244353 % (27002 + d) ≠ 0 := by decide +kernel
theorem pr_c28 : ∀ d, d < 1000 → 998244353 % (28002 + d) ≠ 0 := by decide +kernel
theorem pr_c29 : ∀ d, d < 1000 → 998244353 % (29002 + d) ≠ 0 := by decide +kernel
theorem pr_c30 : ∀ d, d < 1000 → 998244353 % (30002 + d) ≠ 0 := by decide +kernel
theorem pr_c31 : ∀ d, d < 1000 → 998244353 % (31002 + d) ≠ 0 := by decide +kernel
theorem pr_small (d : Nat) (h1 : 2 ≤ d) (h2 : d < 32000) : 998244353 % d ≠ 0 := by
  by_cases h0 : d < 1002
  · have := pr_c0 (d - 2) (by omega)
    rw [show 2 + (d - 2) = d by omega] at this
    exact this
  by_cases h1 : d < 2002
  · have := pr_c1 (d - 1002) (by omega)
    rw [show 1002 + (d - 1002) = d by omega] at this
    exact this
  by_cases h2 : d < 3002
  · have := pr_c2 (d - 2002) (by omega)
    rw [show 2002 + (d - 2002) = d by omega] at this
    exact this
  by_cases h3 : d < 4002
  · have := pr_c3 (d - 3002) (by omega)
    rw [show 3002 + (d - 3002) = d by omega] at this
    exact this
  by_cases h4 : d < 5002
  · have := pr_c4 (d - 4002) (by omega)
    rw [show 4002 + (d - 4002) = d by omega] at this
    exact this
  by_cases h5 : d < 6002
  · have := pr_c5 (d - 5002) (by omega)
    rw [show 5002 + (d - 5002) = d by omega] at this
    exact this
  by_cases h6 : d < 7002
  · have := pr_c6 (d - 6002) (by omega)
    rw [show 6002 + (d - 6002) = d by omega] at this
    exact this
  by_cases h7 : d < 8002
  · have := pr_c7 (d - 7002) (by omega)
    rw [show 7002 + (d - 7002) = d by omega] at this
    exact this
  by_cases h8 : d < 9002
  · have := pr_c8 (d - 8002) (by omega)
    rw [show 8002 + (d - 8002) = d by omega] at this
    exact this
  by_cases h9 : d < 10002
  · have := pr_c9 (d - 9002) (by omega)
    rw [show 9002 + (d - 9002) = d by omega] at this
    exact this
  by_cases h10 : d < 11002
  · have := pr_c10 (d - 10002) (by omega)
    rw [show 10002 + (d - 10002) = d by omega] at this
    exact this
  by_cases h11 : d < 12002
  · have := pr_c11 (d - 11002) (by omega)
    rw [show 11002 + (d - 11002) = d by omega] at this
    exact this
  by_cases h12 : d < 13002
  · have := pr_c12 (d - 12002) (by omega)
    rw [show 12002 + (d - 12002) = d by omega] at this
    exact this
  by_cases h13 : d < 14002
  · have := pr_c13 (d - 13002) (by omega)
    rw [show 13002 + (d - 13002) = d by omega] at this
    exact this
  by_cases h14 : d < 15002
  · have := pr_c14 (d - 14002) (by omega)
    rw [show 14002 + (d - 14002) = d by omega] at this
    exact this
  by_cases h15 : d < 16002
  · have := pr_c15 (d - 15002) (by omega)
    rw [show 15002 + (d - 15002) = d by omega] at this
    exact this
  by_cases h16 : d < 17002
  · have := pr_c16 (d - 16002) (by omega)
    rw [show 16002 + (d - 16002) = d by omega] at this
    exact this
  by_cases h17 : d < 18002
  · have := pr_c17 (d - 17002) (by omega)
    rw [show 17002 + (d - 17002) = d by omega] at this
    exact this
  by_cases h18 : d < 19002
  · have := pr_c18 (d - 18002) (by omega)
    rw [show 18002 + (d - 18002) = d by omega] at this
    exact this
  by_cases h19 : d < 20002
  · have := pr_c19 (d - 19002) (by omega)
    rw [show 19002 + (d - 19002) = d by omega] at this
    exact this
  by_cases h20 : d < 21002
  · have := pr_c20 (d - 20002) (by omega)
    rw [show 20002 + (d - 20002) = d by omega] at this
    exact this
  by_cases h21 : d < 22002
  · have := pr_c21 (d - 21002) (by omega)
    rw [show 21002 + (d - 21002) = d by omega] at this
    exact this
  by_cases h22 : d < 23002
  · have := pr_c22 (d - 22002) (by omega)
    rw [show 22002 + (d - 22002) = d by omega] at this
    exact this
  by_cases h23 : d < 24002
  · have := pr_c23 (d - 23002) (by omega)
    rw [show 23002 + (d - 23002) = d by omega] at this
    exact this
  by_cases h24 : d < 25002
  · have := pr_c24 (d - 24002) (by omega)
    rw [show 24002 + (d - 24002) = d by omega] at this
    exact this
  by_cases h25 : d < 26002
  · have := pr_c25 (d - 25002) (by omega)
    rw [show 25002 + (d - 25002) = d by omega] at this
    exact this
  by_cases h26 : d < 27002
  · have := pr_c26 (d - 26002) (by omega)
    rw [show 26002 + (d - 26002) = d by omega] at this
    exact this
  by_cases h27 : d < 28002
  · have := pr_c27 (d - 27002) (by omega)
    rw [show 27002 + (d - 27002) = d by omega] at this
    exact this
  by_cases h28 : d < 29002
  · have := pr_c28 (d - 28002) (by omega)
    rw [show 28002 + (d - 28002) = d by omega] at this
    exact this
  by_cases h29 : d < 30002
  · have := pr_c29 (d - 29002) (by omega)
    rw [show 29002 + (d - 29002) = d by omega] at this
    exact this
  by_cases h30 : d < 31002
  · have := pr_c30 (d - 30002) (by omega)
    rw [show 30002 + (d - 30002) = d by omega] at this
    exact this
  by_cases h31 : d < 32002
  · have := pr_c31 (d - 31002) (by omega)
    rw [show 31002 + (d - 31002) = d by omega] at this
    exact this
  omega
theorem pr_P : pr_p 998244353 := by
  refine ⟨by decide, fun d h1 h2 hd => ?_⟩
  obtain ⟨e, he⟩ := hd
  by_cases h3 : d < 32000
  · exact pr_small d h1 h3 (by rw [he]; exact Nat.mul_mod_right d e)
  · by_cases h4 : e < 32000
    · by_cases h5 : e < 2
      · have : e = 0 ∨ e = 1 := by omega
        rcases this with rfl | rfl
        · omega
        · omega
      · exact pr_small e (by omega) h4 (by rw [he]; exact Nat.mul_mod_left d e)
    · have : 32000 * 32000 ≤ d * e := Nat.mul_le_mul (by omega) (by omega)
      omega
theorem pr_dvd {p a b : Nat} (hp : pr_p p) (h : p ∣ a * b) : p ∣ a ∨ p ∣ b := by
  by_cases ha : p ∣ a
  · exact Or.inl ha
  · refine Or.inr ?_
    have hg : Nat.gcd p a = 1 := by
      have h1 := Nat.gcd_dvd_left p a
      have h2 := Nat.gcd_dvd_right p a
      have h3 : 0 < Nat.gcd p a := Nat.gcd_pos_of_pos_left a (by have := hp.1; omega)
      have h4 : Nat.gcd p a ≤ p := Nat.le_of_dvd (by have := hp.1; omega) h1
      by_cases h5 : Nat.gcd p a = p
      · rw [h5] at h2; exact absurd h2 ha
      · by_cases h6 : 2 ≤ Nat.gcd p a
        · exact absurd h1 (hp.2 _ h6 (by omega))
        · omega
    have h1 : p ∣ Nat.gcd (p * b) (a * b) := Nat.dvd_gcd (Nat.dvd_mul_right p b) h
    rw [Nat.gcd_mul_right, hg, Nat.one_mul] at h1
    exact h1
def bn : Nat → Nat → Nat
  | _, 0 => 1
  | 0, _ + 1 => 0
  | n + 1, k + 1 => bn n k + bn n (k + 1)
theorem bn_0 (n : Nat) : bn n 0 = 1 := by cases n <;> rfl
theorem bn_s (n k : Nat) : bn (n + 1) (k + 1) = bn n k + bn n (k + 1) := rfl
theorem bn_big : ∀ (n k : Nat), n < k → bn n k = 0 := by
  intro n
  induction n with
  | zero => intro k h; cases k with
    | zero => omega
    | succ k => rfl
  | succ n ih => intro k h; cases k with
    | zero => omega
    | succ k => rw [bn_s, ih k (by omega), ih (k + 1) (by omega)]
theorem bn_n (n : Nat) : bn n n = 1 := by
  induction n with
  | zero => rfl
  | succ n ih => rw [bn_s, ih, bn_big n (n + 1) (by omega)]
theorem bn_ab : ∀ (n k : Nat), (k + 1) * bn (n + 1) (k + 1) = (n + 1) * bn n k := by
  intro n
  induction n with
  | zero => intro k; cases k with
    | zero => rfl
    | succ k => rw [bn_s, bn_big 0 (k + 1) (by omega), bn_big 0 (k + 1 + 1) (by omega)]; rfl
  | succ n ih => intro k; cases k with
    | zero =>
      have h := ih 0
      simp only [bn_s, bn_0] at h ⊢
      omega
    | succ k =>
      have h1 := ih k
      have h2 := ih (k + 1)
      rw [bn_s (n + 1) (k + 1), Nat.mul_add, h2]
      have e : (k + 1 + 1) * bn (n + 1) (k + 1) = (k + 1) * bn (n + 1) (k + 1) + bn (n + 1) (k + 1) := Nat.succ_mul _ _
      rw [e, h1, bn_s n k, Nat.succ_mul (n + 1)]
      rw [Nat.mul_add]
      omega
def bs (a n : Nat) : Nat → Nat
  | 0 => 0
  | m + 1 => bs a n m + bn n m * a ^ m
theorem bs_s (a n : Nat) : ∀ m, bs a (n + 1) (m + 1) = bs a n (m + 1) + a * bs a n m := by
  intro m
  induction m with
  | zero => simp [bs, bn_0]
  | succ m ih =>
    have e1 : bs a (n + 1) (m + 1 + 1) = bs a (n + 1) (m + 1) + bn (n + 1) (m + 1) * a ^ (m + 1) := rfl
    have e2 : bs a n (m + 1 + 1) = bs a n (m + 1) + bn n (m + 1) * a ^ (m + 1) := rfl
    have e3 : bs a n (m + 1) = bs a n m + bn n m * a ^ m := rfl
    have e4 : a * (bn n m * a ^ m) = bn n m * a ^ (m + 1) := by rw [Nat.pow_succ, Nat.mul_left_comm, Nat.mul_comm a (a ^ m)]
    rw [e1, ih, e2, bn_s, Nat.add_mul]
    have e5 : a * bs a n (m + 1) = a * bs a n m + bn n m * a ^ (m + 1) := by rw [e3, Nat.mul_add, e4]
    rw [e5]
    omega
theorem bs_top (a : Nat) : ∀ n, bs a n (n + 1) = (a + 1) ^ n := by
  intro n
  induction n with
  | zero => simp [bs, bn_0]
  | succ n ih =>
    rw [bs_s]
    have e : bs a n (n + 1 + 1) = bs a n (n + 1) + bn n (n + 1) * a ^ (n + 1) := rfl
    rw [e, bn_big n (n + 1) (by omega), ih, Nat.zero_mul]
    show (a + 1) ^ n + 0 + a * (a + 1) ^ n = (a + 1) ^ n * (a + 1)
    rw [Nat.mul_add, Nat.mul_comm a]
    omega
theorem bn_p {p : Nat} (hp : pr_p p) (k : Nat) (h1 : 0 < k) (h2 : k < p) : p ∣ bn p k := by
  obtain ⟨q, rfl⟩ : ∃ q, p = q + 1 := ⟨p - 1, by have := hp.1; omega⟩
  obtain ⟨j, rfl⟩ : ∃ j, k = j + 1 := ⟨k - 1, by omega⟩
  have h := bn_ab q j
  have hd : (q + 1) ∣ (j + 1) * bn (q + 1) (j + 1) := ⟨bn q j, h⟩
  rcases pr_dvd hp hd with h3 | h3
  · exact absurd (Nat.le_of_dvd (by omega) h3) (by omega)
  · exact h3
theorem bs_p {p : Nat} (hp : pr_p p) (a : Nat) : ∀ m, m < p → (bs a p (m + 1)) % p = 1 % p := by
  intro m
  induction m with
  | zero => intro _; simp [bs, bn_0]
  | succ m ih =>
    intro h
    have e : bs a p (m + 1 + 1) = bs a p (m + 1) + bn p (m + 1) * a ^ (m + 1) := rfl
    obtain ⟨c, hc⟩ := bn_p hp (m + 1) (by omega) h
    rw [e, hc, Nat.mul_assoc, Nat.add_mul_mod_self_left]
    exact ih (by omega)
theorem fm_nat {p : Nat} (hp : pr_p p) : ∀ a : Nat, (a ^ p) % p = a % p := by
  intro a
  have hp1 := hp.1
  induction a with
  | zero => rw [Nat.zero_pow (by omega)]
  | succ a ih =>
    have h1 := bs_top a p
    have e : bs a p (p + 1) = bs a p p + bn p p * a ^ p := rfl
    obtain ⟨q, hq⟩ : ∃ q, p = q + 1 := ⟨p - 1, by omega⟩
    have h2 := bs_p hp a q (by omega)
    rw [← hq] at h2
    rw [← h1, e, bn_n, Nat.one_mul, Nat.add_mod, h2, ih, ← Nat.add_mod, Nat.add_comm 1 a]
theorem fm_one {p : Nat} (hp : pr_p p) (a : Nat) (ha : ¬ p ∣ a) : (a ^ (p - 1)) % p = 1 := by
  have hp1 := hp.1
  have h := fm_nat hp a
  have e : a ^ p = a ^ (p - 1) * a := by rw [← Nat.pow_succ]; congr 1; omega
  have h0 : 0 < a := Nat.pos_of_ne_zero (fun z => ha (by rw [z]; exact Nat.dvd_zero p))
  have h1 : 1 ≤ a ^ (p - 1) := Nat.pow_pos h0
  have h2 : p ∣ (a ^ (p - 1) - 1) * a := by
    have h3 : a ≤ a ^ p := by rw [e]; exact Nat.le_mul_of_pos_left a h1
    have h4 : p ∣ a ^ p - a := by
      have d1 := Nat.div_add_mod (a ^ p) p
      have d2 := Nat.div_add_mod a p
      refine ⟨a ^ p / p - a / p, ?_⟩
      rw [Nat.mul_sub]
      omega
    rw [e] at h4
    rw [Nat.sub_mul, Nat.one_mul]
    exact h4
  rcases pr_dvd hp h2 with h5 | h5
  · obtain ⟨c, hc⟩ := h5
    have : a ^ (p - 1) = 1 + p * c := by omega
    rw [this, Nat.add_mul_mod_self_left, Nat.mod_eq_of_lt (by omega)]
  · exact absurd h5 ha
