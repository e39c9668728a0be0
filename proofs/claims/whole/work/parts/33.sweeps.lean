/-! ===== the class's sweeps ===== -/
theorem i_add_of {a b : Int32} {u v : Int} (ha : a.toInt = u) (hb : b.toInt = v) (h1 : -2147483648 ≤ u + v) (h2 : u + v < 2147483648) : (a + b).toInt = u + v := by
  rw [i_add (by rw [ha, hb]; exact h1) (by rw [ha, hb]; exact h2), ha, hb]
theorem i_dec {x : Int32} {j : Nat} (h : x.toInt = (j : Nat)) (hj : j ≤ 1000) : (x + -1).toInt = (j : Int) - 1 := by
  have h1 : -2147483648 ≤ (j : Int) + (-1) := by omega
  have h2 : (j : Int) + (-1) < 2147483648 := by omega
  exact i_add_of h (show (-1 : Int32).toInt = -1 from rfl) h1 h2
theorem mu_dec {a b : Int} {j : Nat} (ha : a = (j : Int) - 1) (hb : b = (j : Nat)) : (a + 1).toNat < (b + 1).toNat := by omega
def tS (n : Nat) (C : Int) (r33 : Nat → Int32) (na : Nat → Nat) (tg : Nat → Nat → Nat) (r32 a32 a36 : Nat → Int32) : Prop := (∀ k, k ≠ 5 → a32 k = r32 k) ∧ (a32 5).toInt = (ct a36 n : Nat) ∧ ∀ u, u < n → (a36 u = 0 ∨ a36 u = 1) ∧ (C ≤ (r33 u).toInt → a36 u = 0) ∧ (a36 u = 0 → LD n (fun u => C ≤ (r33 u).toInt) na tg u)
def tC (n : Nat) (na : Nat → Nat) (tg : Nat → Nat → Nat) (a36 : Nat → Int32) : Prop := ∀ u k, u < n → k < na u → a36 (tg u k) = 0 → a36 u = 0
/-- the first marks -/
def tI (i : Nat) (C : Int) (r33 r32 a32 a36 : Nat → Int32) : Prop := (∀ k, k ≠ 5 → a32 k = r32 k) ∧ (a32 5).toInt = (ct a36 i : Nat) ∧ ∀ u, u < i → a36 u = if C ≤ (r33 u).toInt then 0 else 1
theorem tI_step {i : Nat} {C : Int} {r33 r32 a32 a36 : Nat → Int32} (h : tI i C r33 r32 a32 a36) (hi : i < 200) {t w : Int32} (ht2 : t = (if C ≤ (r33 i).toInt then 0 else 1)) (hw : w = if t = 0 then 0 else 1) : tI (i + 1) C r33 r32 (upd a32 5 (a32 5 + w)) (upd a36 i t) := by
  obtain ⟨j3, j4, j5⟩ := h
  have e0 : (0 : Int32).toInt = 0 := rfl
  have e1 : (1 : Int32).toInt = 1 := rfl
  have hcl := ct_le a36 i
  refine ⟨fun k hk => by rw [upd_ne hk]; exact j3 k hk, ?_, fun u hu => ?_⟩
  · have hct : ct (upd a36 i t) (i + 1) = ct a36 i + if t = 0 then 0 else 1 := by
      show ct (upd a36 i t) i + (if upd a36 i t i = 0 then 0 else 1) = _
      rw [ct_out a36 i t i (Nat.le_refl i), upd_at]
    rw [upd_at, hct, hw]
    by_cases q : t = 0
    · rw [if_pos q, if_pos q, i_add (by rw [e0]; omega) (by rw [e0]; omega), e0]; omega
    · rw [if_neg q, if_neg q, i_add (by rw [e1]; omega) (by rw [e1]; omega), e1]; omega
  · by_cases hui : u = i
    · rw [hui, upd_at]; exact ht2
    · rw [upd_ne hui]; exact j5 u (by omega)
theorem s4_tr0 (F : Nat) (hF : 2100 ≤ F) {n : Nat} (hn : n ≤ 200) {C : Int} {r32 r33 r36 : Nat → Int32} (h2 : (r32 2).toInt = n) (h7 : (r32 7).toInt = C) :
    sp (mj_it (mj_u2 (fun z0 => (mj_u2 (fun z1 z2 => bdX4_findTrapped_7 F r33 z0 z1 z2)))) F ((0 : Int32), (upd r32 5 (0 : Int32)), r36)) (fun e => tI n C r33 r32 e.1 e.2) := by
  have e0 : (0 : Int32).toInt = 0 := rfl
  have e1 : (1 : Int32).toInt = 1 := rfl
  refine sp_it (J := fun s : Int32 × (Nat → Int32) × (Nat → Int32) => ∃ i, i ≤ n ∧ s.1.toInt = (i : Nat) ∧ tI i C r33 r32 s.2.1 s.2.2) (fun s => (300 - s.1.toInt).toNat) ?_ F _ ?_ ?_
  · rintro ⟨x, a32, a36⟩ ⟨i, j1, j2, j3⟩
    refine sp_u2 (sp_u2 ?_)
    dsimp only at j2 j3
    have hcx : x.toNatClampNeg = i := by rw [i_cl, j2]; rfl
    have k2 := j3.1 2 (by decide)
    have k7 := j3.1 7 (by decide)
    unfold bdX4_findTrapped_7
    rw [k2, k7]
    refine sp_ite (fun hz => sp_some ?_) (fun hz => ?_)
    · have := i_le.mp hz
      have : i = n := by omega
      subst this
      exact j3
    · have hz2 : ¬ (r32 2).toInt ≤ x.toInt := fun z => hz (i_le.mpr z)
      have hix : mj_ib x 200 = true := mj_ib_of (by omega) (by omega)
      have hx1 : (x + 1).toInt = ((i + 1 : Nat) : Int) := by rw [i_add (by omega) (by omega), j2, e1]; omega
      refine sp_pos hix ?_
      rw [hcx]
      have core : ∀ t : Int32, (t = 0 ∨ t = 1) → t = (if C ≤ (r33 i).toInt then 0 else 1) → ∃ w : Int32, w = (if t = 0 then 0 else 1) ∧ jnX4_findTrapped_38 F r33 x x t a32 a36 = some (.inl (x + 1, upd a32 5 (a32 5 + w), upd a36 i t)) := by
        intro t ht1 ht2
        have hnt : vp_nar .boolean t = t := by rcases ht1 with z | z <;> rw [z] <;> decide
        unfold jnX4_findTrapped_38
        rw [if_pos hix, if_pos hix, hcx, hnt, upd_at]
        by_cases q : t = 0
        · exact ⟨0, by rw [if_pos q], by rw [if_pos q]⟩
        · exact ⟨1, by rw [if_neg q], by rw [if_neg q]⟩
      refine sp_ite (fun q => ?_) (fun q => ?_)
      · have hq := i_le.mp q
        have ht : (0 : Int32) = (if C ≤ (r33 i).toInt then 0 else 1) := by rw [if_pos (by omega)]
        obtain ⟨w, w1, w2⟩ := core 0 (Or.inl rfl) ht
        rw [w2]
        exact sp_some ⟨⟨i + 1, by omega, hx1, tI_step j3 (by omega) ht w1⟩, by dsimp only; omega⟩
      · have q2 : ¬ (r32 7).toInt ≤ (r33 i).toInt := fun z => q (i_le.mpr z)
        have ht : (1 : Int32) = (if C ≤ (r33 i).toInt then 0 else 1) := by rw [if_neg (by omega)]
        obtain ⟨w, w1, w2⟩ := core 1 (Or.inr rfl) ht
        rw [w2]
        exact sp_some ⟨⟨i + 1, by omega, hx1, tI_step j3 (by omega) ht w1⟩, by dsimp only; omega⟩
  · exact ⟨0, by omega, e0, fun k hk => upd_ne hk, by dsimp only; rw [upd_at]; rfl, fun u hu => absurd hu (Nat.not_lt_zero u)⟩
  · show (300 - (0 : Int32).toInt).toNat < F
    rw [e0]; omega
theorem tI_tS {n : Nat} {C : Int} {r33 r32 a32 a36 : Nat → Int32} {na : Nat → Nat} {tg : Nat → Nat → Nat} (h : tI n C r33 r32 a32 a36) : tS n C r33 na tg r32 a32 a36 := by
  refine ⟨h.1, h.2.1, fun u hu => ?_⟩
  rw [h.2.2 u hu]
  split
  · rename_i hc
    exact ⟨Or.inl rfl, fun _ => rfl, fun _ => LD_fin hu hc⟩
  · rename_i hc
    exact ⟨Or.inr rfl, fun z => absurd z hc, fun z => absurd z (by decide)⟩
theorem tS_off {n : Nat} {C : Int} {r33 r32 a32 a36 : Nat → Int32} {na : Nat → Nat} {tg : Nat → Nat → Nat} (h : tS n C r33 na tg r32 a32 a36) (hn : n ≤ 200) {i k : Nat} (hi : i < n) (hk : k < na i) (ht : tg i k < n) (h0 : a36 (tg i k) = 0) (hr : ¬ a36 i = 0) : tS n C r33 na tg r32 (upd a32 5 (a32 5 - 1)) (upd a36 i 0) ∧ ct (upd a36 i 0) n + 1 = ct a36 n := by
  obtain ⟨h1, h2, h3⟩ := h
  have e1 : (1 : Int32).toInt = 1 := rfl
  have hd := ct_dn a36 i hr n hi
  have hcl := ct_le a36 n
  refine ⟨⟨fun k hk => by rw [upd_ne hk]; exact h1 k hk, ?_, fun u hu => ?_⟩, hd⟩
  · rw [upd_at, i_sub (by rw [e1]; omega) (by rw [e1]; omega), e1]; omega
  · by_cases hu3 : u = i
    · rw [hu3, upd_at]
      exact ⟨Or.inl rfl, fun _ => rfl, fun _ => LD_arc hi hk ((h3 _ ht).2.2 h0)⟩
    · rw [upd_ne hu3]; exact h3 u hu
/-- within a sweep -/
def tW (n : Nat) (na : Nat → Nat) (tg : Nat → Nat → Nat) (b36 : Nat → Int32) (i : Nat) (x1 : Int32) (a36 : Nat → Int32) : Prop := (x1 = 0 ∧ a36 = b36 ∧ ∀ u k, i ≤ u → u < n → k < na u → b36 (tg u k) = 0 → b36 u = 0) ∨ (¬ x1 = 0 ∧ ct a36 n + 1 ≤ ct b36 n)
theorem tW_keep {n : Nat} {na : Nat → Nat} {tg : Nat → Nat → Nat} {b36 a36 : Nat → Int32} {i : Nat} {x1 : Int32} (h : tW n na tg b36 (i + 1) x1 a36) (hk : ∀ k, k < na i → a36 (tg i k) = 0 → a36 i = 0) : tW n na tg b36 i x1 a36 := by
  rcases h with ⟨q1, q2, q3⟩ | q
  · refine Or.inl ⟨q1, q2, fun u k hu1 hu2 hk2 hz => ?_⟩
    by_cases hu3 : u = i
    · subst hu3
      rw [← q2] at hz ⊢
      exact hk k hk2 hz
    · exact q3 u k (by omega) hu2 hk2 hz
  · exact Or.inr q
theorem s4_sweep (F : Nat) (hF : 2100 ≤ F) {n : Nat} (hn : n ≤ 200) {C : Int} {fr na : Nat → Nat} {tg : Nat → Nat → Nat} {r32 r33 r37 r38 b32 b36 : Nat → Int32} (x2 : Int32) (hA : cA n fr na tg r37 r38) (h2 : (r32 2).toInt = n) (hb : tS n C r33 na tg r32 b32 b36) :
    sp (mj_it (mj_u2 (fun z0 => (mj_u2 (fun z1 => (mj_u2 (fun z2 z3 => bdX4_findTrapped_92 F r37 r38 x2 z0 z1 z2 z3)))))) F ((0 : Int32), ((b32 2) - (1 : Int32)), b32, b36)) (fun e => tS n C r33 na tg r32 e.2.1 e.2.2 ∧ ((e.1 = 0 ∧ tC n na tg e.2.2) ∨ (¬ e.1 = 0 ∧ ct e.2.2 n + 1 ≤ ct b36 n))) := by
  have e0 : (0 : Int32).toInt = 0 := rfl
  have e1 : (1 : Int32).toInt = 1 := rfl
  have hb2 : b32 2 = r32 2 := hb.1 2 (by decide)
  have hs2 : (b32 2 - 1).toInt = (n : Int) - 1 := by rw [hb2, i_sub (by omega) (by omega), h2, e1]
  refine sp_it (J := fun s : Int32 × Int32 × (Nat → Int32) × (Nat → Int32) => ∃ i : Nat, i ≤ n ∧ s.2.1.toInt = (i : Int) - 1 ∧ tS n C r33 na tg r32 s.2.2.1 s.2.2.2 ∧ tW n na tg b36 i s.1 s.2.2.2) (fun s => (s.2.1.toInt + 1).toNat) ?_ F _ ?_ ?_
  · rintro ⟨y1, y3, d32, d36⟩ ⟨i, w1, w2, w3, w4⟩
    refine sp_u2 (sp_u2 (sp_u2 ?_))
    dsimp only at w2 w3 w4
    unfold bdX4_findTrapped_92
    refine sp_ite (fun hq => sp_some ⟨w3, ?_⟩) (fun hq => ?_)
    · have := i_lt.mp hq
      have hi0 : i = 0 := by omega
      rcases w4 with ⟨q1, q2, q3⟩ | q
      · refine Or.inl ⟨q1, ?_⟩
        dsimp only
        rw [q2]
        intro u k hu hk hz
        exact q3 u k (by omega) hu hk hz
      · exact Or.inr q
    · have hq2 : ¬ y3.toInt < (0 : Int32).toInt := fun z => hq (i_lt.mpr z)
      obtain ⟨j, rfl⟩ : ∃ j, i = j + 1 := ⟨i - 1, by omega⟩
      have hyj : y3.toInt = (j : Nat) := by omega
      have hci : y3.toNatClampNeg = j := by rw [i_cl, hyj]; rfl
      have hiy : mj_ib y3 200 = true := mj_ib_of (by omega) (by omega)
      have hjn : j < n := w1
      have hj1 : j ≤ 1000 := by omega
      have hy1 := i_dec hyj hj1
      have hmu : ((y3 + -1).toInt + 1).toNat < (y3.toInt + 1).toNat := mu_dec hy1 hyj
      refine sp_pos hiy ?_
      rw [hci]
      refine sp_ite (fun hr => sp_some ⟨⟨j, Nat.le_of_lt hjn, hy1, w3, tW_keep w4 (fun k _ _ => hr)⟩, hmu⟩) (fun hr => ?_)
      refine sp_bind (s4_leadsOut F hF hn hA (x := y3) (s := j) hyj hjn) ?_
      rintro o ⟨o1, o2⟩
      refine sp_ite (fun ho => sp_some ⟨⟨j, Nat.le_of_lt hjn, hy1, w3, tW_keep w4 (fun k hk hz => absurd hz (o1 ho k hk))⟩, hmu⟩) (fun ho => ?_)
      obtain ⟨k, k1, k2⟩ := o2 ho
      refine sp_pos hiy (sp_some ?_)
      have nb0 : vp_nar .boolean 0 = 0 := by decide
      rw [nb0]
      obtain ⟨-, -, -, hA4⟩ := hA j hjn
      obtain ⟨t1, t2⟩ := tS_off w3 hn hjn k1 (hA4 k k1).2 k2 hr
      refine ⟨⟨j, Nat.le_of_lt hjn, hy1, t1, Or.inr ⟨(show ¬ (1 : Int32) = 0 from by decide), ?_⟩⟩, hmu⟩
      dsimp only
      rcases w4 with ⟨q1, q2, q3⟩ | q
      · rw [← q2, t2]; exact Nat.le_refl _
      · rw [t2]; exact Nat.le_trans (Nat.le_succ _) q.2
  · exact ⟨n, Nat.le_refl n, hs2, hb, Or.inl ⟨rfl, rfl, fun u k hu1 hu2 => absurd hu1 (by omega)⟩⟩
  · show ((b32 2 - 1).toInt + 1).toNat < F
    rw [hs2]; omega
theorem s4_trapped (F : Nat) (hF : 2100 ≤ F) {n : Nat} (hn : n ≤ 200) {C : Int} {fr na : Nat → Nat} {tg : Nat → Nat → Nat} {r32 r33 r36 r37 r38 : Nat → Int32} (hA : cA n fr na tg r37 r38) (h2 : (r32 2).toInt = n) (h7 : (r32 7).toInt = C) :
    sp (fnX4_findTrapped F r32 r33 r36 r37 r38) (fun o => tS n C r33 na tg r32 o.1 o.2 ∧ tC n na tg o.2) := by
  have e0 : (0 : Int32).toInt = 0 := rfl
  have e1 : (1 : Int32).toInt = 1 := rfl
  have e200 : (200 : Int32).toInt = 200 := rfl
  unfold fnX4_findTrapped
  refine sp_bind (s4_tr0 F hF hn h2 h7) ?_
  rintro ⟨a32, a36⟩ hI
  have hS : tS n C r33 na tg r32 a32 a36 := tI_tS hI
  refine sp_u2 ?_
  refine sp_bind (sp_it (J := fun s : Int32 × Int32 × (Nat → Int32) × (Nat → Int32) => ∃ j : Nat, s.2.1.toInt = (j : Nat) ∧ j ≤ 200 ∧ tS n C r33 na tg r32 s.2.2.1 s.2.2.2 ∧ ((s.1 = 0 ∧ tC n na tg s.2.2.2) ∨ (¬ s.1 = 0 ∧ ct s.2.2.2 n + j ≤ 200))) (Q := fun e : (Nat → Int32) × (Nat → Int32) => tS n C r33 na tg r32 e.1 e.2 ∧ tC n na tg e.2) (fun s => (300 - s.2.1.toInt).toNat) ?_ F _ ?_ ?_) ?_
  · rintro ⟨x1, x2, b32, b36⟩ ⟨j, g1, g2, g3, g6⟩
    refine sp_u2 (sp_u2 (sp_u2 ?_))
    dsimp only at g1 g3 g6
    unfold bdX4_findTrapped_72
    refine sp_ite (fun hz => sp_some ⟨g3, ?_⟩) (fun hz => ?_)
    · have := i_le.mp hz
      rcases g6 with ⟨q1, q2⟩ | ⟨q1, q2⟩
      · exact q2
      · have h0 := ct_0 b36 n (by omega)
        exact fun u k hu _ _ => h0 u hu
    · have hz2 : ¬ (200 : Int32).toInt ≤ x2.toInt := fun z => hz (i_le.mpr z)
      refine sp_ite (fun hy => sp_some ⟨g3, ?_⟩) (fun hy => ?_)
      · rcases g6 with ⟨q1, q2⟩ | ⟨q1, q2⟩
        · exact q2
        · exact absurd hy q1
      · have hcj : ct b36 n + j ≤ 200 := by
          rcases g6 with ⟨q1, q2⟩ | ⟨q1, q2⟩
          · exact absurd q1 hy
          · exact q2
        clear g6
        have hx2 : (x2 + 1).toInt = ((j + 1 : Nat) : Int) := by rw [i_add (by omega) (by omega), g1, e1]; omega
        have hmu : (300 - (x2 + 1).toInt).toNat < (300 - x2.toInt).toNat := by rw [hx2, g1]; omega
        have hj : j < 200 := by omega
        refine sp_bind (s4_sweep F hF hn x2 hA h2 g3) ?_
        rintro ⟨y1, d32, d36⟩ ⟨w3, w6⟩
        refine sp_u2 (sp_u2 (sp_some ⟨⟨j + 1, hx2, hj, w3, ?_⟩, hmu⟩))
        rcases w6 with q | ⟨q1, q2⟩
        · exact Or.inl q
        · refine Or.inr ⟨q1, ?_⟩
          dsimp only at q2 ⊢
          omega
  · refine ⟨0, e0, by omega, hS, Or.inr ⟨(show ¬ (1 : Int32) = 0 from by decide), ?_⟩⟩
    dsimp only
    have := ct_le a36 n
    omega
  · show (300 - (0 : Int32).toInt).toNat < F
    rw [e0]; omega
  · rintro ⟨b32, b36⟩ hb
    exact sp_u2 (sp_some hb)
theorem tS_LD {n : Nat} {C : Int} {r33 r32 a32 a36 : Nat → Int32} {na : Nat → Nat} {tg : Nat → Nat → Nat} (h : tS n C r33 na tg r32 a32 a36) (hc : tC n na tg a36) (htg : ∀ u k, u < n → k < na u → tg u k < n) : ∀ s, s < n → (a36 s = 0 ↔ LD n (fun u => C ≤ (r33 u).toInt) na tg s) := by
  intro s hs
  refine ⟨(h.2.2 s hs).2.2, fun hL => ?_⟩
  have := hL (fun u => u < n → a36 u = 0) (fun u hu hf _ => (h.2.2 u hu).2.1 hf) (fun u k hu hk hT _ => hc u k hu hk (hT (htg u k hu hk)))
  exact this hs
