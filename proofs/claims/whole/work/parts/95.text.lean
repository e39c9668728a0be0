/-! ===== the text: bytes, blanks, words, numbers ===== -/
def tx (n : Nat) (r3 r77 : Nat → Int32) : Prop := n ≤ 400 ∧ ∀ k, k < n → tb (r3 k) (r77 k)
theorem tb_i {c s : Int32} (h : tb c s) : 0 ≤ c.toInt ∧ c.toInt ≤ 255 ∧ (s.toInt = c.toInt ∧ c.toInt ≤ 127 ∨ s.toInt = c.toInt - 256 ∧ 128 ≤ c.toInt) := by
  obtain ⟨h1, h2, h3⟩ := h
  refine ⟨h2, h3, ?_⟩
  have e : s.toInt = c.toInt.bmod 256 := by
    rw [h1, Int8.toInt_toInt32, Int32.toInt_toInt8]
  rw [e]
  unfold Int.bmod
  generalize c.toInt = x at *
  clear h1 e
  by_cases z : x ≤ 127
  · left
    rw [if_pos (by omega)]
    omega
  · right
    rw [if_neg (by omega)]
    omega
theorem tb_eq {c s v : Int32} (h : tb c s) (h1 : 0 ≤ v.toInt) (h2 : v.toInt ≤ 127) : s = v ↔ c = v := by
  have := tb_i h
  rw [i_eq, i_eq]
  omega
def bt (r3 : Nat → Int32) (k : Nat) : Int := (r3 k).toInt
def run (P : Int → Prop) (n : Nat) (b : Nat → Int) (p e : Nat) : Prop := p ≤ e ∧ e ≤ n ∧ (∀ k, p ≤ k → k < e → P (b k)) ∧ (e < n → ¬ P (b e))
theorem run_un {P : Int → Prop} {n : Nat} {b : Nat → Int} {p e e' : Nat} (h : run P n b p e) (h' : run P n b p e') : e = e' := by
  obtain ⟨a1, a2, a3, a4⟩ := h
  obtain ⟨b1, b2, b3, b4⟩ := h'
  rcases Nat.lt_trichotomy e e' with z | z | z
  · exact absurd (b3 e a1 z) (a4 (by omega))
  · exact z
  · exact absurd (a3 e' b1 z) (b4 (by omega))
theorem run_rf {P : Int → Prop} {n : Nat} {b : Nat → Int} {p : Nat} (h : p ≤ n) (h' : p < n → ¬ P (b p)) : run P n b p p := ⟨Nat.le_refl p, h, fun k k1 k2 => absurd k2 (by omega), h'⟩
def isB (x : Int) : Prop := x = 32
def isL (x : Int) : Prop := 97 ≤ x ∧ x ≤ 122
def isD (x : Int) : Prop := 48 ≤ x ∧ x ≤ 57
def nb (cap : Int) (b : Nat → Int) (q : Nat) : Nat → Int
  | 0 => 0
  | k + 1 => if 10 * nb cap b q k + b (q + k) - 48 < cap then 10 * nb cap b q k + b (q + k) - 48 else cap
theorem nb_s (cap : Int) (b : Nat → Int) (q k : Nat) : nb cap b q (k + 1) = if 10 * nb cap b q k + b (q + k) - 48 < cap then 10 * nb cap b q k + b (q + k) - 48 else cap := rfl
theorem nb_b {cap : Int} (hc : 0 ≤ cap) {b : Nat → Int} {q : Nat} : ∀ m, (∀ k, q ≤ k → k < q + m → isD (b k)) → 0 ≤ nb cap b q m ∧ nb cap b q m ≤ cap := by
  intro m
  induction m with
  | zero => intro _; exact ⟨Int.le_refl 0, hc⟩
  | succ m ih =>
    intro h
    have a := ih (fun k k1 k2 => h k k1 (by omega))
    have d := h (q + m) (by omega) (by omega)
    unfold isD at d
    rw [nb_s]
    split <;> omega
/-- the class's number: beyond 1000 it stays there -/
def ncl (b : Nat → Int) (q : Nat) : Nat → Int
  | 0 => 0
  | k + 1 => if 1000 ≤ ncl b q k then 1000 else 10 * ncl b q k + b (q + k) - 48
theorem ncl_s (b : Nat → Int) (q k : Nat) : ncl b q (k + 1) = if 1000 ≤ ncl b q k then 1000 else 10 * ncl b q k + b (q + k) - 48 := rfl
theorem ncl_b {b : Nat → Int} {q : Nat} : ∀ m, (∀ k, q ≤ k → k < q + m → isD (b k)) → 0 ≤ ncl b q m ∧ ncl b q m ≤ 10000 := by
  intro m
  induction m with
  | zero => intro _; exact ⟨Int.le_refl 0, (by decide : (0 : Int) ≤ 10000)⟩
  | succ m ih =>
    intro h
    have a := ih (fun k k1 k2 => h k k1 (by omega))
    have d := h (q + m) (by omega) (by omega)
    unfold isD at d
    rw [ncl_s]
    split <;> omega
theorem nb_min {b : Nat → Int} {q : Nat} : ∀ m, (∀ k, q ≤ k → k < q + m → isD (b k)) → (nb 100000 b q m < 1000 → ncl b q m = nb 100000 b q m) ∧ (1000 ≤ nb 100000 b q m → 1000 ≤ ncl b q m) := by
  intro m
  induction m with
  | zero => intro _; exact ⟨fun _ => rfl, fun z => absurd z (by show ¬ (1000 : Int) ≤ 0; omega)⟩
  | succ m ih =>
    intro h
    have a := ih (fun k k1 k2 => h k k1 (by omega))
    have b1 := ncl_b m (fun k k1 k2 => h k k1 (by omega))
    have b2 := nb_b (cap := 100000) (by omega) m (fun k k1 k2 => h k k1 (by omega))
    have d := h (q + m) (by omega) (by omega)
    unfold isD at d
    rw [nb_s, ncl_s]
    generalize ncl b q m = x at *
    generalize nb 100000 b q m = y at *
    generalize b (q + m) = w at *
    by_cases y1 : y < 1000
    · have := a.1 y1
      rw [this, if_pos (show 10 * y + w - 48 < 100000 by omega), if_neg (show ¬ 1000 ≤ y by omega)]
      exact ⟨fun _ => rfl, fun z => z⟩
    · have := a.2 (by omega)
      rw [if_pos this]
      refine ⟨fun z => ?_, fun _ => Int.le_refl _⟩
      exfalso
      split at z <;> omega
/-! the loops -/
theorem s8_blank (F : Nat) (hF : 500 ≤ F) {n p : Nat} {r2 r3 : Nat → Int32} (hn : n ≤ 400) (h3 : (r2 3).toInt = (n : Nat)) (h5 : (r2 5).toInt = (p : Nat)) (hp : p ≤ n) :
    sp (mj_it (bdX8_goOn_16 F r3) F r2) (fun s => ∃ q : Nat, (s 5).toInt = (q : Nat) ∧ run isB n (bt r3) p q ∧ ∀ k, k ≠ 5 → s k = r2 k) := by
  refine sp_cnt (fun s : Nat → Int32 => s 5) n (by omega) (fun i s => p ≤ i ∧ (∀ k, p ≤ k → k < i → isB (bt r3 k)) ∧ ∀ k, k ≠ 5 → s k = r2 k) ?_ F p r2 hp h5 ⟨Nat.le_refl p, fun k k1 k2 => absurd k2 (by omega), fun k _ => rfl⟩ (by omega)
  rintro i s hi hx hcx hxs ⟨j1, j2, j3⟩
  unfold bdX8_goOn_16
  have e3 : (s 3).toInt = (n : Nat) := by rw [j3 3 (by omega)]; exact h3
  refine sp_ite (fun hz => sp_some ⟨i, hx, ⟨j1, hi, j2, ?_⟩, j3⟩) (fun hz => ?_)
  · have := i_le.mp hz
    intro z
    omega
  · have hz' : ¬ (s 3).toInt ≤ (s 5).toInt := fun z => hz (i_le.mpr z)
    refine sp_pos (mj_ib_of (by omega) (by omega)) ?_
    rw [hcx]
    refine sp_ite (fun hb => sp_some ⟨by omega, upd_at, by omega, ?_, ?_⟩) (fun hb => sp_some ⟨i, hx, ⟨j1, hi, j2, ?_⟩, j3⟩)
    · intro k k1 k2
      by_cases z : k = i
      · rw [z]
        exact i_eq.mp hb
      · exact j2 k k1 (by omega)
    · intro k hk
      rw [upd_ne hk]
      exact j3 k hk
    · intro _ z
      exact hb (i_eq.mpr z)
theorem s11_blank (F : Nat) (hF : 500 ≤ F) {n p : Nat} {r71 r3 r77 : Nat → Int32} (ht : tx n r3 r77) (h3 : (r71 10).toInt = (n : Nat)) (h5 : (r71 11).toInt = (p : Nat)) (hp : p ≤ n) :
    sp (mj_it (bdX11_sign_0 F r77) F r71) (fun s => ∃ q : Nat, (s 11).toInt = (q : Nat) ∧ run isB n (bt r3) p q ∧ ∀ k, k ≠ 11 → s k = r71 k) := by
  have hn := ht.1
  refine sp_cnt (fun s : Nat → Int32 => s 11) n (by omega) (fun i s => p ≤ i ∧ (∀ k, p ≤ k → k < i → isB (bt r3 k)) ∧ ∀ k, k ≠ 11 → s k = r71 k) ?_ F p r71 hp h5 ⟨Nat.le_refl p, fun k k1 k2 => absurd k2 (by omega), fun k _ => rfl⟩ (by omega)
  rintro i s hi hx hcx hxs ⟨j1, j2, j3⟩
  unfold bdX11_sign_0
  have e3 : (s 10).toInt = (n : Nat) := by rw [j3 10 (by omega)]; exact h3
  refine sp_ite (fun hz => sp_some ⟨i, hx, ⟨j1, hi, j2, ?_⟩, j3⟩) (fun hz => ?_)
  · have := i_le.mp hz
    intro z
    omega
  · have hz' : ¬ (s 10).toInt ≤ (s 11).toInt := fun z => hz (i_le.mpr z)
    have hin : i < n := by omega
    refine sp_pos (mj_ib_of (by omega) (by omega)) ?_
    rw [hcx]
    have hq := tb_eq (v := 32) (ht.2 i hin) (by decide) (by decide)
    refine sp_ite (fun hb => sp_some ⟨by omega, upd_at, by omega, ?_, ?_⟩) (fun hb => sp_some ⟨i, hx, ⟨j1, hi, j2, ?_⟩, j3⟩)
    · intro k k1 k2
      by_cases z : k = i
      · rw [z]
        exact i_eq.mp (hq.mp hb)
      · exact j2 k k1 (by omega)
    · intro k hk
      rw [upd_ne hk]
      exact j3 k hk
    · intro _ z
      exact hb (hq.mpr (i_eq.mpr z))
theorem s8_word (F : Nat) (hF : 500 ≤ F) {n p : Nat} {r2 r3 : Nat → Int32} (hn : n ≤ 400) (h3 : (r2 3).toInt = (n : Nat)) (h5 : (r2 6).toInt = (p : Nat)) (hp : p ≤ n) (h4 : r2 4 = 0) :
    sp (mj_it (bdX8_goOn_72 F r3) F r2) (fun s => ∃ e : Nat, (s 6).toInt = (e : Nat) ∧ run isL n (bt r3) p e ∧ (p = e → s 4 = 0) ∧ (p < e → s 4 = 1) ∧ ∀ k, k ≠ 4 → k ≠ 6 → s k = r2 k) := by
  refine sp_cnt (fun s : Nat → Int32 => s 6) n (by omega) (fun i s => p ≤ i ∧ (∀ k, p ≤ k → k < i → isL (bt r3 k)) ∧ (p = i → s 4 = 0) ∧ (p < i → s 4 = 1) ∧ ∀ k, k ≠ 4 → k ≠ 6 → s k = r2 k) ?_ F p r2 hp h5 ⟨Nat.le_refl p, fun k k1 k2 => absurd k2 (by omega), fun _ => h4, fun z => absurd z (by omega), fun k _ _ => rfl⟩ (by omega)
  rintro i s hi hx hcx hxs ⟨j1, j2, j3, j4, j5⟩
  unfold bdX8_goOn_72
  have e3 : (s 3).toInt = (n : Nat) := by rw [j5 3 (by omega) (by omega)]; exact h3
  refine sp_ite (fun hz => sp_some ⟨i, hx, ⟨j1, hi, j2, ?_⟩, j3, j4, j5⟩) (fun hz => ?_)
  · have := i_le.mp hz
    intro z
    omega
  · have hz' : ¬ (s 3).toInt ≤ (s 6).toInt := fun z => hz (i_le.mpr z)
    have hib : mj_ib (s 6) 400 = true := mj_ib_of (by omega) (by omega)
    refine sp_pos hib ?_
    rw [hcx]
    refine sp_ite (fun hb => sp_some ⟨i, hx, ⟨j1, hi, j2, fun _ z => ?_⟩, j3, j4, j5⟩) (fun hb => sp_pos hib (sp_ite (fun hb2 => sp_some ⟨i, hx, ⟨j1, hi, j2, fun _ z => ?_⟩, j3, j4, j5⟩) (fun hb2 => sp_some ⟨by omega, upd_at, by omega, ?_, fun z => absurd z (by omega), fun _ => ?_, ?_⟩)))
    · have a : (r3 i).toInt < 97 := i_lt.mp hb
      unfold isL bt at z
      omega
    · have a : 122 < (r3 i).toInt := i_lt.mp hb2
      unfold isL bt at z
      omega
    · intro k k1 k2
      by_cases z : k = i
      · rw [z]
        have a : ¬ (r3 i).toInt < 97 := fun z => hb (i_lt.mpr z)
        have a2 : ¬ 122 < (r3 i).toInt := fun z => hb2 (i_lt.mpr z)
        unfold isL bt
        omega
      · exact j2 k k1 (by omega)
    · rw [upd_ne (by omega), upd_at]
    · intro k hk hk2
      rw [upd_ne hk2, upd_ne hk]
      exact j5 k hk hk2
theorem i_dig {v c : Int32} {x : Int} (hv : v.toInt = x) (h0 : 0 ≤ x) (h1 : x ≤ 200000) (hc : 48 ≤ c.toInt ∧ c.toInt ≤ 57) : ((10 * v + c) - 48).toInt = 10 * x + c.toInt - 48 := by
  have e10 : (10 : Int32).toInt = 10 := rfl
  have e48 : (48 : Int32).toInt = 48 := rfl
  have a : (10 * v).toInt = 10 * x := by rw [i_mul (by rw [e10]; omega) (by rw [e10]; omega), hv, e10]
  have b : (10 * v + c).toInt = 10 * x + c.toInt := by rw [i_add (by omega) (by omega), a]
  rw [i_sub (by omega) (by omega), b, e48]
theorem s8_digits (F : Nat) (hF : 500 ≤ F) {n p : Nat} {r2 r3 : Nat → Int32} (hn : n ≤ 400) (h3 : (r2 3).toInt = (n : Nat)) (h5 : (r2 6).toInt = (p : Nat)) (hp : p ≤ n) (h4 : r2 4 = 0) (h7 : r2 7 = 0) :
    sp (mj_it (bdX8_goOn_129 F r3) F r2) (fun s => ∃ e : Nat, (s 6).toInt = (e : Nat) ∧ run isD n (bt r3) p e ∧ (p = e → s 4 = 0) ∧ (p < e → s 4 = 2) ∧ (s 7).toInt = ncl (bt r3) p (e - p) ∧ ∀ k, k ≠ 4 → k ≠ 6 → k ≠ 7 → s k = r2 k) := by
  refine sp_cnt (fun s : Nat → Int32 => s 6) n (by omega) (fun i s => p ≤ i ∧ (∀ k, p ≤ k → k < i → isD (bt r3 k)) ∧ (p = i → s 4 = 0) ∧ (p < i → s 4 = 2) ∧ (s 7).toInt = ncl (bt r3) p (i - p) ∧ ∀ k, k ≠ 4 → k ≠ 6 → k ≠ 7 → s k = r2 k) ?_ F p r2 hp h5 ⟨Nat.le_refl p, fun k k1 k2 => absurd k2 (by omega), fun _ => h4, fun z => absurd z (by omega), by rw [h7, Nat.sub_self]; rfl, fun k _ _ _ => rfl⟩ (by omega)
  rintro i s hi hx hcx hxs ⟨j1, j2, j3, j4, j6, j5⟩
  unfold bdX8_goOn_129
  have e3 : (s 3).toInt = (n : Nat) := by rw [j5 3 (by omega) (by omega) (by omega)]; exact h3
  have h41 : ¬ s 4 = 1 := by
    by_cases z : p = i
    · rw [j3 z]; decide
    · rw [j4 (by omega)]; decide
  rw [if_neg h41]
  refine sp_ite (fun hz => sp_some ⟨i, hx, ⟨j1, hi, j2, ?_⟩, j3, j4, j6, j5⟩) (fun hz => ?_)
  · have := i_le.mp hz
    intro z
    omega
  · have hz' : ¬ (s 3).toInt ≤ (s 6).toInt := fun z => hz (i_le.mpr z)
    have hib : mj_ib (s 6) 400 = true := mj_ib_of (by omega) (by omega)
    refine sp_pos hib ?_
    rw [hcx]
    refine sp_ite (fun hb => sp_some ⟨i, hx, ⟨j1, hi, j2, fun _ z => ?_⟩, j3, j4, j6, j5⟩) (fun hb => sp_pos hib (sp_ite (fun hb2 => sp_some ⟨i, hx, ⟨j1, hi, j2, fun _ z => ?_⟩, j3, j4, j6, j5⟩) (fun hb2 => ?_)))
    · have a : (r3 i).toInt < 48 := i_lt.mp hb
      unfold isD bt at z
      omega
    · have a : 57 < (r3 i).toInt := i_lt.mp hb2
      unfold isD bt at z
      omega
    · have a : ¬ (r3 i).toInt < 48 := fun z => hb (i_lt.mpr z)
      have a2 : ¬ 57 < (r3 i).toInt := fun z => hb2 (i_lt.mpr z)
      have hj2 : ∀ k, p ≤ k → k < i + 1 → isD (bt r3 k) := by
        intro k k1 k2
        by_cases z : k = i
        · rw [z]
          unfold isD bt
          omega
        · exact j2 k k1 (by omega)
      have bd := ncl_b (b := bt r3) (q := p) (i - p) (fun k k1 k2 => j2 k k1 (by omega))
      have es : i + 1 - p = (i - p) + 1 := by omega
      have ei : p + (i - p) = i := by omega
      refine sp_ite (fun hv => sp_some ⟨by omega, upd_at, by omega, hj2, fun z => absurd z (by omega), fun _ => ?_, ?_, ?_⟩) (fun hv => sp_pos hib (sp_some ⟨by omega, upd_at, by omega, hj2, fun z => absurd z (by omega), fun _ => ?_, ?_, ?_⟩))
      · rw [upd_ne (by omega), upd_ne (by omega), upd_at]
      · have hv' : 1000 ≤ (s 7).toInt := i_le.mp hv
        rw [j6] at hv'
        rw [upd_ne (by omega), upd_at, es, ncl_s, if_pos hv']
        rfl
      · intro k hk hk2 hk3
        rw [upd_ne hk2, upd_ne hk3, upd_ne hk]
        exact j5 k hk hk2 hk3
      · rw [upd_ne (by omega), upd_ne (by omega), upd_at]
      · have hv' : ¬ 1000 ≤ (s 7).toInt := fun z => hv (i_le.mpr z)
        rw [j6] at hv'
        have hd := i_dig (c := r3 i) j6 bd.1 (by omega) ⟨by omega, by omega⟩
        rw [upd_ne (by omega), upd_at, es, ncl_s, ei, if_neg hv']
        exact hd
      · intro k hk hk2 hk3
        rw [upd_ne hk2, upd_ne hk3, upd_ne hk]
        exact j5 k hk hk2 hk3
