/-! ===== the reference's sweeps ===== -/
def rA (n : Nat) (na : Nat → Nat) (tg : Nat → Nat → Nat) (r83 r84 : Nat → Int32) : Prop := ∀ s, s < n → (r83 s).toInt = (na s : Nat) ∧ na s ≤ 10 ∧ ∀ k, k < na s → (r84 (10 * s + k)).toInt = (tg s k : Nat) ∧ tg s k < n
def uS (n : Nat) (C : Int) (r80 : Nat → Int32) (na : Nat → Nat) (tg : Nat → Nat → Nat) (a : Nat → Int32) : Prop := ∀ u, u < n → (a u = 0 ∨ a u = 1) ∧ (C ≤ (r80 u).toInt → ¬ a u = 0) ∧ (¬ a u = 0 → LD n (fun u => C ≤ (r80 u).toInt) na tg u)
def uC (n : Nat) (na : Nat → Nat) (tg : Nat → Nat → Nat) (i : Nat) (a : Nat → Int32) : Prop := ∀ u k, u < i → u < n → k < na u → ¬ a (tg u k) = 0 → ¬ a u = 0
theorem uS_on {n : Nat} {C : Int} {r80 a : Nat → Int32} {na : Nat → Nat} {tg : Nat → Nat → Nat} (h : uS n C r80 na tg a) {i k : Nat} (hi : i < n) (hk : k < na i) (ht : tg i k < n) (h1 : ¬ a (tg i k) = 0) (h0 : a i = 0) : uS n C r80 na tg (upd a i 1) ∧ cz (upd a i 1) n + 1 = cz a n := by
  refine ⟨fun u hu => ?_, cz_upd a i 1 h0 (by decide) n hi⟩
  by_cases hui : u = i
  · rw [hui, upd_at]
    exact ⟨Or.inr rfl, fun _ => (show ¬ (1 : Int32) = 0 from by decide), fun _ => LD_arc hi hk ((h _ ht).2.2 h1)⟩
  · rw [upd_ne hui]; exact h u hu
/-- so far in a sweep that began at b -/
def uW (n : Nat) (C : Int) (r80 : Nat → Int32) (na : Nat → Nat) (tg : Nat → Nat → Nat) (b : Nat → Int32) (x2 : Int32) (a : Nat → Int32) : Prop := uS n C r80 na tg a ∧ ((x2 = 0 ∧ a = b) ∨ (¬ x2 = 0 ∧ cz a n + 1 ≤ cz b n))
theorem s11_inner (F : Nat) (hF : 600 ≤ F) {n : Nat} (hn : n ≤ 200) {C : Int} {r80 r83 r84 b a : Nat → Int32} {na : Nat → Nat} {tg : Nat → Nat → Nat} (hA : rA n na tg r83 r84) {x3 x2 : Int32} {i : Nat} (hi : i < n) (hx : x3.toInt = (i : Nat)) (h : uW n C r80 na tg b x2 a) :
    sp (mj_it (mj_u2 (fun z0 => (mj_u2 (fun z1 z2 => bdX11_lays_184 F r83 r84 x3 z0 z1 z2)))) F (x2, (0 : Int32), a)) (fun e => uW n C r80 na tg b e.1 e.2 ∧ (e.1 = 0 → x2 = 0 ∧ ∀ k, k < na i → ¬ b (tg i k) = 0 → ¬ b i = 0)) := by
  have e0 : (0 : Int32).toInt = 0 := rfl
  have e1 : (1 : Int32).toInt = 1 := rfl
  have e10 : (10 : Int32).toInt = 10 := rfl
  obtain ⟨A1, A2, A3⟩ := hA i hi
  have hix : mj_ib x3 200 = true := mj_ib_of (by omega) (by omega)
  have hcx : x3.toNatClampNeg = i := by rw [i_cl, hx]; rfl
  have x10 : (10 * x3).toInt = 10 * (i : Nat) := by rw [i_mul (by rw [e10]; omega) (by rw [e10]; omega), hx, e10]
  refine sp_it (J := fun s : Int32 × Int32 × (Nat → Int32) => ∃ k : Nat, k ≤ na i ∧ s.2.1.toInt = (k : Nat) ∧ uW n C r80 na tg b s.1 s.2.2 ∧ (s.1 = 0 → x2 = 0 ∧ ∀ j, j < k → ¬ b (tg i j) = 0 → ¬ b i = 0)) (fun s => (20 - s.2.1.toInt).toNat) ?_ F _ ?_ ?_
  · rintro ⟨y2, y4, c⟩ ⟨k, k1, k2, k3, k4⟩
    refine sp_u2 (sp_u2 ?_)
    dsimp only at k2 k3 k4
    have hy1 : (y4 + 1).toInt = ((k + 1 : Nat) : Int) := by rw [i_add (by omega) (by omega), k2, e1]; omega
    have hmu : k < na i → (20 - (y4 + 1).toInt).toNat < (20 - y4.toInt).toNat := by intro z; rw [hy1, k2]; omega
    unfold bdX11_lays_184
    refine sp_pos hix ?_
    rw [hcx]
    refine sp_ite (fun hz => sp_some ?_) (fun hz => ?_)
    · have := i_le.mp hz
      have : k = na i := by omega
      subst this
      exact ⟨k3, k4⟩
    · have hz2 : ¬ (r83 i).toInt ≤ y4.toInt := fun z => hz (i_le.mpr z)
      have hk : k < na i := by omega
      obtain ⟨t1, t2⟩ := A3 k hk
      refine sp_pos hix ?_
      have next : (y2 = 0 → ¬ b (tg i k) = 0 → ¬ b i = 0) → sp (some (Sum.inl (y2, y4 + 1, c)) : Option ((Int32 × Int32 × (Nat → Int32)) ⊕ (Int32 × (Nat → Int32)))) (Sum.elim (fun s' : Int32 × Int32 × (Nat → Int32) => (∃ k : Nat, k ≤ na i ∧ s'.2.1.toInt = (k : Nat) ∧ uW n C r80 na tg b s'.1 s'.2.2 ∧ (s'.1 = 0 → x2 = 0 ∧ ∀ j, j < k → ¬ b (tg i j) = 0 → ¬ b i = 0)) ∧ (20 - s'.2.1.toInt).toNat < (20 - y4.toInt).toNat) (fun e => uW n C r80 na tg b e.1 e.2 ∧ (e.1 = 0 → x2 = 0 ∧ ∀ k, k < na i → ¬ b (tg i k) = 0 → ¬ b i = 0))) := by
        intro hq
        refine sp_some ⟨⟨k + 1, hk, hy1, k3, fun z => ⟨(k4 z).1, fun j hj => ?_⟩⟩, hmu hk⟩
        by_cases hjk : j = k
        · rw [hjk]; exact hq z
        · exact (k4 z).2 j (by omega)
      refine sp_ite (fun h0 => ?_) (fun h0 => ?_)
      · have xi : (10 * x3 + y4).toInt = ((10 * i + k : Nat) : Int) := by rw [i_add (by omega) (by omega), x10, k2]; omega
        have ci : (10 * x3 + y4).toNatClampNeg = 10 * i + k := by rw [i_cl, xi]; omega
        refine sp_pos (mj_ib_of (by omega) (by omega)) ?_
        rw [ci]
        refine sp_pos (mj_ib_of (by omega) (by omega)) ?_
        have ct' : (r84 (10 * i + k)).toNatClampNeg = tg i k := by rw [i_cl, t1]; omega
        rw [ct']
        refine sp_ite (fun hq => next (fun z hb => ?_)) (fun hq => ?_)
        · rcases k3.2 with ⟨q1, q2⟩ | ⟨q1, q2⟩
          · rw [q2] at hq; exact absurd hq hb
          · exact absurd z q1
        · have nb1 : vp_nar .boolean 1 = 1 := by decide
          refine sp_pos hix (sp_some ?_)
          rw [nb1]
          obtain ⟨u1, u2⟩ := uS_on k3.1 hi hk t2 hq h0
          refine ⟨⟨k + 1, hk, hy1, ⟨u1, Or.inr ⟨(show ¬ (1 : Int32) = 0 from by decide), ?_⟩⟩, fun z => absurd z (show ¬ (1 : Int32) = 0 from by decide)⟩, hmu hk⟩
          dsimp only
          rw [u2]
          rcases k3.2 with ⟨q1, q2⟩ | ⟨q1, q2⟩
          · rw [q2]; exact Nat.le_refl _
          · exact Nat.le_trans (Nat.le_succ _) q2
      · refine next (fun z hb => ?_)
        rcases k3.2 with ⟨q1, q2⟩ | ⟨q1, q2⟩
        · rw [q2] at h0; exact h0
        · exact absurd z q1
  · exact ⟨0, by omega, e0, h, fun z => ⟨z, fun j hj => absurd hj (Nat.not_lt_zero j)⟩⟩
  · show (20 - (0 : Int32).toInt).toNat < F
    rw [e0]; omega
theorem s11_middle (F : Nat) (hF : 600 ≤ F) {n : Nat} (hn : n ≤ 200) {C : Int} {r71 r80 r83 r84 b : Nat → Int32} {na : Nat → Nat} {tg : Nat → Nat → Nat} (hA : rA n na tg r83 r84) (h24 : (r71 24).toInt = (n : Nat)) (h : uS n C r80 na tg b) :
    sp (mj_it (mj_u2 (fun z0 => (mj_u2 (fun z1 z2 => bdX11_lays_173 F r71 r83 r84 z0 z1 z2)))) F ((0 : Int32), (0 : Int32), b)) (fun e => uW n C r80 na tg b e.1 e.2 ∧ (e.1 = 0 → uC n na tg n b)) := by
  have e0 : (0 : Int32).toInt = 0 := rfl
  have e1 : (1 : Int32).toInt = 1 := rfl
  refine sp_it (J := fun s : Int32 × Int32 × (Nat → Int32) => ∃ i : Nat, i ≤ n ∧ s.2.1.toInt = (i : Nat) ∧ uW n C r80 na tg b s.1 s.2.2 ∧ (s.1 = 0 → uC n na tg i b)) (fun s => (300 - s.2.1.toInt).toNat) ?_ F _ ?_ ?_
  · rintro ⟨y2, y3, c⟩ ⟨i, i1, i2, i3, i4⟩
    refine sp_u2 (sp_u2 ?_)
    dsimp only at i2 i3 i4
    have hy1 : (y3 + 1).toInt = ((i + 1 : Nat) : Int) := by rw [i_add (by omega) (by omega), i2, e1]; omega
    have hmu : (300 - (y3 + 1).toInt).toNat < (300 - y3.toInt).toNat := by rw [hy1, i2]; omega
    unfold bdX11_lays_173
    refine sp_ite (fun hz => sp_some ?_) (fun hz => ?_)
    · have := i_le.mp hz
      have : i = n := by omega
      subst this
      exact ⟨i3, i4⟩
    · have hz2 : ¬ (r71 24).toInt ≤ y3.toInt := fun z => hz (i_le.mpr z)
      have hi : i < n := by omega
      refine sp_bind (s11_inner F hF hn hA (x3 := y3) hi i2 i3) ?_
      rintro ⟨z2, d⟩ ⟨g1, g2⟩
      refine sp_u2 (sp_some ⟨⟨i + 1, hi, hy1, g1, fun z u k hu1 hu2 hk hb => ?_⟩, hmu⟩)
      dsimp only at g1 g2 z
      by_cases hui : u = i
      · rw [hui] at hb hk ⊢; exact (g2 z).2 k hk hb
      · exact i4 (g2 z).1 u k (by omega) hu2 hk hb
  · exact ⟨0, by omega, e0, ⟨h, Or.inl ⟨rfl, rfl⟩⟩, fun _ u k hu => absurd hu (Nat.not_lt_zero u)⟩
  · show (300 - (0 : Int32).toInt).toNat < F
    rw [e0]; omega
theorem s11_outer (F : Nat) (hF : 600 ≤ F) {n : Nat} (hn : n ≤ 200) {C : Int} {r71 r80 r83 r84 b : Nat → Int32} {na : Nat → Nat} {tg : Nat → Nat → Nat} (hA : rA n na tg r83 r84) (h24 : (r71 24).toInt = (n : Nat)) (h : uS n C r80 na tg b) :
    sp (mj_it (mj_u2 (fun z0 z1 => bdX11_lays_165 F r71 r83 r84 z0 z1)) F ((1 : Int32), b)) (fun e => uS n C r80 na tg e ∧ uC n na tg n e) := by
  refine sp_it (J := fun s : Int32 × (Nat → Int32) => uS n C r80 na tg s.2 ∧ (s.1 = 0 → uC n na tg n s.2)) (fun s => if s.1 = 0 then 0 else cz s.2 n + 1) ?_ F _ ?_ ?_
  · rintro ⟨x2, c⟩ ⟨h1, h2⟩
    refine sp_u2 ?_
    dsimp only at h1 h2
    unfold bdX11_lays_165
    refine sp_ite (fun hz => sp_some ⟨h1, h2 hz⟩) (fun hz => ?_)
    refine sp_bind (s11_middle F hF hn hA h24 h1) ?_
    rintro ⟨y2, d⟩ ⟨⟨g1, g2⟩, g3⟩
    refine sp_u2 (sp_some ⟨⟨g1, fun z => ?_⟩, ?_⟩)
    · dsimp only at g2 g3 z ⊢
      rcases g2 with ⟨q1, q2⟩ | ⟨q1, q2⟩
      · rw [q2]; exact g3 z
      · exact absurd z q1
    · dsimp only at g2 ⊢
      rw [if_neg hz]
      rcases g2 with ⟨q1, q2⟩ | ⟨q1, q2⟩
      · rw [if_pos q1]; exact Nat.succ_pos _
      · rw [if_neg q1]; exact Nat.succ_lt_succ q2
  · exact ⟨h, fun z => absurd z (show ¬ (1 : Int32) = 0 from by decide)⟩
  · dsimp only
    rw [if_neg (show ¬ (1 : Int32) = 0 from by decide)]
    have := cz_le b n
    omega
theorem s11_init (F : Nat) (hF : 600 ≤ F) {n : Nat} (hn : n ≤ 200) {C : Int} {r71 r80 r86 : Nat → Int32} (h24 : (r71 24).toInt = (n : Nat)) (h4 : (r71 4).toInt = C) :
    sp (mj_it (mj_u2 (fun z0 z1 => bdX11_lays_114 F r71 r80 z0 z1)) F ((0 : Int32), r86)) (fun e => ∀ u, u < n → e u = if C ≤ (r80 u).toInt then 1 else 0) := by
  have e0 : (0 : Int32).toInt = 0 := rfl
  have e1 : (1 : Int32).toInt = 1 := rfl
  have nb0 : vp_nar .boolean 0 = 0 := by decide
  have nb1 : vp_nar .boolean 1 = 1 := by decide
  refine sp_it (J := fun s : Int32 × (Nat → Int32) => ∃ i : Nat, i ≤ n ∧ s.1.toInt = (i : Nat) ∧ ∀ u, u < i → s.2 u = if C ≤ (r80 u).toInt then 1 else 0) (fun s => (300 - s.1.toInt).toNat) ?_ F _ ?_ ?_
  · rintro ⟨x, a⟩ ⟨i, i1, i2, i3⟩
    refine sp_u2 ?_
    dsimp only at i2 i3
    have hcx : x.toNatClampNeg = i := by rw [i_cl, i2]; rfl
    have hx1 : (x + 1).toInt = ((i + 1 : Nat) : Int) := by rw [i_add (by omega) (by omega), i2, e1]; omega
    have hmu : (300 - (x + 1).toInt).toNat < (300 - x.toInt).toNat := by rw [hx1, i2]; omega
    unfold bdX11_lays_114
    refine sp_ite (fun hz => sp_some ?_) (fun hz => ?_)
    · have := i_le.mp hz
      have : i = n := by omega
      subst this
      exact i3
    · have hz2 : ¬ (r71 24).toInt ≤ x.toInt := fun z => hz (i_le.mpr z)
      have hi : i < n := by omega
      have hix : mj_ib x 200 = true := mj_ib_of (by omega) (by omega)
      have core : ∀ t : Int32, t = (if C ≤ (r80 i).toInt then 1 else 0) → ∀ u, u < i + 1 → upd a i t u = if C ≤ (r80 u).toInt then 1 else 0 := by
        intro t ht u hu
        by_cases hui : u = i
        · rw [hui, upd_at]; exact ht
        · rw [upd_ne hui]; exact i3 u (by omega)
      refine sp_pos hix ?_
      rw [hcx, nb0, nb1]
      refine sp_ite (fun q => sp_pos hix (sp_some ⟨⟨i + 1, hi, hx1, core 0 ?_⟩, hmu⟩)) (fun q => sp_pos hix (sp_some ⟨⟨i + 1, hi, hx1, core 1 ?_⟩, hmu⟩))
      · have := i_lt.mp q
        rw [if_neg (by omega)]
      · have : ¬ (r80 i).toInt < (r71 4).toInt := fun z => q (i_lt.mpr z)
        rw [if_pos (by omega)]
  · exact ⟨0, by omega, e0, fun u hu => absurd hu (Nat.not_lt_zero u)⟩
  · show (300 - (0 : Int32).toInt).toNat < F
    rw [e0]; omega
theorem uS_of {n : Nat} {C : Int} {r80 a : Nat → Int32} {na : Nat → Nat} {tg : Nat → Nat → Nat} (h : ∀ u, u < n → a u = if C ≤ (r80 u).toInt then 1 else 0) : uS n C r80 na tg a := by
  intro u hu
  rw [h u hu]
  split
  · rename_i hc
    exact ⟨Or.inr rfl, fun _ => (show ¬ (1 : Int32) = 0 from by decide), fun _ => LD_fin hu hc⟩
  · rename_i hc
    exact ⟨Or.inl rfl, fun z => absurd z hc, fun z => absurd rfl z⟩
theorem uS_LD {n : Nat} {C : Int} {r80 a : Nat → Int32} {na : Nat → Nat} {tg : Nat → Nat → Nat} (h : uS n C r80 na tg a) (hc : uC n na tg n a) (htg : ∀ u k, u < n → k < na u → tg u k < n) : ∀ s, s < n → (¬ a s = 0 ↔ LD n (fun u => C ≤ (r80 u).toInt) na tg s) := by
  intro s hs
  refine ⟨(h s hs).2.2, fun hL => ?_⟩
  have := hL (fun u => u < n → ¬ a u = 0) (fun u hu hf _ => (h u hu).2.1 hf) (fun u k hu hk hT _ => hc u k hu hu hk (hT (htg u k hu hk)))
  exact this hs
