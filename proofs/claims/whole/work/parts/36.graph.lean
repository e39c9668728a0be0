/-! ===== the graph, in both programs ===== -/
abbrev T9 : Type := (Nat → Int32) × (Nat → Int32) × (Nat → Int32) × (Nat → Int32) × (Nat → Int32) × (Nat → Int32) × (Nat → Int32) × (Nat → Int32) × (Nat → Int32)
/-- the shares of the arcs -/
def hA (n : Nat) (C : Int) (fr na : Nat → Nat) (sh : Nat → Nat → Int) (r33 r39 r85 : Nat → Int32) : Prop := ∀ s, s < n → (∀ k, k < na s → (r39 (fr s + k)).toInt = sh s k ∧ (r85 (10 * s + k)).toInt = sh s k ∧ 1 ≤ sh s k ∧ sh s k ≤ 60) ∧ ssum r39 (fr s) (na s) = (if (r33 s).toInt < C then 60 else 0) ∧ ((r33 s).toInt < C ↔ 0 < na s)
/-- the two graphs are one -/
def gG (C : Int) (n : Nat) (fr na : Nat → Nat) (tg : Nat → Nat → Nat) (sh : Nat → Nat → Int) (r32 r33 r34 r35 r36 r37 r38 r39 r71 r80 r81 r82 r83 r84 r85 r86 : Nat → Int32) : Prop :=
  (1 ≤ n ∧ n ≤ 200 ∧ (r32 2).toInt = (n : Nat) ∧ (r71 24).toInt = (n : Nat)) ∧
  (0 ≤ C ∧ C ≤ 40 ∧ (r32 7).toInt = C ∧ (r71 4).toInt = C ∧ r32 6 = 0 ∧ r71 21 = 0) ∧
  (∀ s, s < n → sD C s r33 r34 r35 r80 r81 r82) ∧
  (∀ s s', s < n → s' < n → r33 s = r33 s' → r34 s = r34 s' → s = s') ∧
  cA n fr na tg r37 r38 ∧ rA n na tg r83 r84 ∧ hA n C fr na sh r33 r39 r85 ∧
  (r32 3 = r71 25) ∧ (r32 4).toInt = (ce r33 (r32 7) n : Nat) ∧ (r32 5).toInt = (ct r36 n : Nat) ∧
  ((r37 0).toInt = 0 ∧ ∀ s, s < n → (r36 s = 0 ∨ r36 s = 1) ∧ (r86 s = 0 ∨ r86 s = 1) ∧ (r36 s = 0 ↔ LD n (fun u => C ≤ (r33 u).toInt) na tg s) ∧ (¬ r86 s = 0 ↔ r36 s = 0))
theorem LD_congr {n : Nat} {f g : Nat → Prop} {na : Nat → Nat} {tg : Nat → Nat → Nat} (h : ∀ u, u < n → (f u ↔ g u)) (s : Nat) : LD n f na tg s ↔ LD n g na tg s := by
  constructor
  · intro hL T h1 h2
    exact hL T (fun u hu hf => h1 u hu ((h u hu).mp hf)) h2
  · intro hL T h1 h2
    exact hL T (fun u hu hf => h1 u hu ((h u hu).mpr hf)) h2
theorem gF_end {C : Int} {n base : Nat} {r37 r32 r33 r34 r35 r38 r39 r40 r71 r80 r81 r82 r83 r84 r85 : Nat → Int32} (h : gF C n n base 0 0 r37 r32 r33 r34 r35 r38 r39 r40 r71 r80 r81 r82 (upd r83 n 0) r84 r85) :
    ∃ (fr na : Nat → Nat) (tg : Nat → Nat → Nat) (sh : Nat → Nat → Int), cA n fr na tg r37 r38 ∧ rA n na tg r83 r84 ∧ hA n C fr na sh r33 r39 r85 ∧ (∀ u k, u < n → k < na u → tg u k < n) := by
  obtain ⟨⟨c1, c2, c3, c4⟩, -, -, -, ⟨f1, f2, f3, -⟩, -, f8, -⟩ := h
  refine ⟨fun s => (r37 s).toInt.toNat, fun s => (r83 s).toInt.toNat, fun s k => (r38 ((r37 s).toInt.toNat + k)).toInt.toNat, fun s k => (r39 ((r37 s).toInt.toNat + k)).toInt, ?_, ?_, ?_, ?_⟩
  · intro s hs
    obtain ⟨f, a, h1, h2, h3, h4, h5, h6, h7, h8⟩ := f8 s hs
    rw [upd_ne (by omega)] at h2
    dsimp only
    have e1 : (r37 s).toInt.toNat = f := by omega
    have e2 : (r83 s).toInt.toNat = a := by omega
    rw [e1, e2]
    refine ⟨h1, h5, by omega, fun k hk => ?_⟩
    obtain ⟨g1, g2, g3, g4, g5, g6⟩ := h6 k hk
    exact ⟨by omega, by omega⟩
  · intro s hs
    obtain ⟨f, a, h1, h2, h3, h4, h5, h6, h7, h8⟩ := f8 s hs
    rw [upd_ne (by omega)] at h2
    dsimp only
    have e1 : (r37 s).toInt.toNat = f := by omega
    have e2 : (r83 s).toInt.toNat = a := by omega
    rw [e1, e2]
    refine ⟨h2, h3, fun k hk => ?_⟩
    obtain ⟨g1, g2, g3, g4, g5, g6⟩ := h6 k hk
    rw [g1]
    exact ⟨by omega, by omega⟩
  · intro s hs
    obtain ⟨f, a, h1, h2, h3, h4, h5, h6, h7, h8⟩ := f8 s hs
    rw [upd_ne (by omega)] at h2
    dsimp only
    have e1 : (r37 s).toInt.toNat = f := by omega
    have e2 : (r83 s).toInt.toNat = a := by omega
    rw [e1, e2]
    refine ⟨fun k hk => ?_, h7, h8⟩
    obtain ⟨g1, g2, g3, g4, g5, g6⟩ := h6 k hk
    rw [g2]
    exact ⟨rfl, rfl, g5, g6⟩
  · intro s k hs hk
    obtain ⟨f, a, h1, h2, h3, h4, h5, h6, h7, h8⟩ := f8 s hs
    rw [upd_ne (by omega)] at h2
    dsimp only at hk ⊢
    have e1 : (r37 s).toInt.toNat = f := by omega
    have e2 : (r83 s).toInt.toNat = a := by omega
    rw [e2] at hk
    rw [e1]
    obtain ⟨g1, g2, g3, g4, g5, g6⟩ := h6 k hk
    omega
/-- what exploring and laying come to -/
def xG (C : Int) (a : T9) (b : T8) : Prop := (∃ (n : Nat) (fr na : Nat → Nat) (tg : Nat → Nat → Nat) (sh : Nat → Nat → Int), gG C n fr na tg sh a.1 a.2.1 a.2.2.1 a.2.2.2.1 a.2.2.2.2.1 a.2.2.2.2.2.1 a.2.2.2.2.2.2.1 a.2.2.2.2.2.2.2.1 b.1 b.2.1 b.2.2.1 b.2.2.2.1 b.2.2.2.2.1 b.2.2.2.2.2.1 b.2.2.2.2.2.2.1 b.2.2.2.2.2.2.2) ∨ mny a.1 b.1
theorem s2_explore (F : Nat) (hF : 2100 ≤ F) {V : Int32} {r18 r19 r20 r21 r22 r23 r24 r25 r26 r73 r75 r87 r37 r32 r33 r34 r35 r36 r38 r39 r40 r71 r80 r81 r82 r83 r84 r85 r86 : Nat → Int32} (hP : pK r18 r19 r20 r21 r22 r23 r24 r25 r26 r73) (h4 : r71 4 = r18 0) (ht : tens r87) (hv : vQ V r75) (hf : r32 1 = 0) (hl : r71 20 = 0) :
    sp2 (fnX4_explore F r18 r19 r20 r21 r22 r23 r24 r25 r26 r32 r33 r34 r35 r36 r37 r38 r39 r40 V) (fnX11_lays F r71 r73 r75 r80 r81 r82 r83 r84 r85 r86 r87) (fun a b => a.1 0 = r32 0 + 1 ∧ a.1 1 = 1 ∧ b.1 20 = 1 ∧ (∀ k, k ≠ 20 → k ≠ 21 → k ≠ 24 → k ≠ 25 → k ≠ 26 → b.1 k = r71 k) ∧ xG (r18 0).toInt a b) := by
  have e0 : (0 : Int32).toInt = 0 := rfl
  have e1 : (1 : Int32).toInt = 1 := rfl
  obtain ⟨P0, P1, P2⟩ := id hP
  unfold fnX4_explore fnX11_lays
  rw [if_pos hf, if_pos hl]
  refine sp2_bl (s_fill40 F (by omega) r40) ?_
  intro o11 h11
  refine sp2_br (s11_all F (by omega) ht hv) ?_
  rintro x1 rfl
  let q32 : Nat → Int32 := upd (upd (upd (upd (upd (upd r32 1 1) 0 (r32 0 + 1)) 2 0) 3 0) 6 0) 7 (r18 0)
  let q71 : Nat → Int32 := upd (upd (upd (upd r71 20 1) 21 0) 24 0) 25 0
  have q32_2 : q32 2 = 0 := by show upd (upd (upd (upd _ 2 0) 3 0) 6 0) 7 (r18 0) 2 = 0; rw [upd_ne (by decide), upd_ne (by decide), upd_ne (by decide), upd_at]
  have q32_3 : q32 3 = 0 := by show upd (upd (upd _ 3 0) 6 0) 7 (r18 0) 3 = 0; rw [upd_ne (by decide), upd_ne (by decide), upd_at]
  have q32_6 : q32 6 = 0 := by show upd (upd _ 6 0) 7 (r18 0) 6 = 0; rw [upd_ne (by decide), upd_at]
  have q32_7 : q32 7 = r18 0 := upd_at
  have q32_0 : q32 0 = r32 0 + 1 := by show upd (upd (upd (upd (upd (upd r32 1 1) 0 (r32 0 + 1)) 2 0) 3 0) 6 0) 7 (r18 0) 0 = _; rw [upd_ne (by decide), upd_ne (by decide), upd_ne (by decide), upd_ne (by decide), upd_at]
  have q32_1 : q32 1 = 1 := by show upd (upd (upd (upd (upd (upd r32 1 1) 0 (r32 0 + 1)) 2 0) 3 0) 6 0) 7 (r18 0) 1 = _; rw [upd_ne (by decide), upd_ne (by decide), upd_ne (by decide), upd_ne (by decide), upd_ne (by decide), upd_at]
  have q71_24 : q71 24 = 0 := by show upd (upd _ 24 0) 25 0 24 = 0; rw [upd_ne (by decide), upd_at]
  have q71_25 : q71 25 = 0 := upd_at
  have q71_21 : q71 21 = 0 := by show upd (upd (upd _ 21 0) 24 0) 25 0 21 = 0; rw [upd_ne (by decide), upd_ne (by decide), upd_at]
  have q71_20 : q71 20 = 1 := by show upd (upd (upd (upd r71 20 1) 21 0) 24 0) 25 0 20 = 1; rw [upd_ne (by decide), upd_ne (by decide), upd_ne (by decide), upd_at]
  have q71_k : ∀ k, k ≠ 20 → k ≠ 21 → k ≠ 24 → k ≠ 25 → q71 k = r71 k := fun k a b c d => by show upd (upd (upd (upd r71 20 1) 21 0) 24 0) 25 0 k = r71 k; rw [upd_ne d, upd_ne c, upd_ne b, upd_ne a]
  have q71_4 : q71 4 = r18 0 := (q71_k 4 (by decide) (by decide) (by decide) (by decide)).trans h4
  have hp1 : (q71 4 + 1).toInt = (r18 0).toInt + 1 := by rw [q71_4, i_add (by omega) (by omega), e1]
  have hst := s2_state F (by omega) (n := 0) (by omega) (r32 := q32) (r33 := r33) (r34 := r34) (r35 := r35) (r40 := o11) (r71 := q71) (r80 := r80) (r81 := r81) (r82 := r82) (hQ_0 h11) (by rw [q32_2]; rfl) (by rw [q71_24]; rfl) (fun s hs => absurd hs (Nat.not_lt_zero s)) (p := 0) (v := x1) (v0 := x1) (lv := 0) (by rw [if_neg (fun z => by have := i_eq.mp z; omega)]) ⟨fun _ => rfl, fun z => absurd z (Nat.not_lt_zero 0)⟩
  refine sp2_bind hst ?_
  rintro ⟨a1, a2⟩ ⟨b1, b2⟩ hab
  rcases hab with ⟨s, q1, -⟩ | ⟨-, -, -, r40', q6, q7, q8⟩ | ⟨q1, -⟩
  · exact absurd q1 (Nat.not_lt_zero s)
  · dsimp only at q6 q7
    subst q6; subst q7
    have hg : gF (r18 0).toInt 0 1 0 0 0 r37 (upd q32 2 (q32 2 + 1)) (upd r33 0 0) (upd r34 0 x1) (upd r35 0 0) r38 r39 r40' (upd q71 24 (q71 24 + 1)) (upd r80 0 0) (upd r81 0 x1) (upd r82 0 0) (upd r83 0 0) r84 r85 := by
      refine ⟨⟨by omega, by omega, ?_, ?_⟩, ⟨P0, P1, ?_, ?_, ?_, ?_⟩, fun s hs => ?_, q8, ⟨?_, ?_, by omega, by omega, ?_, rfl⟩, fun k hk => absurd hk (Nat.not_lt_zero k), fun s hs => absurd hs (Nat.not_lt_zero s), fun _ => rfl, fun z => absurd z (Nat.not_lt_zero 0)⟩
      · rw [upd_at, q32_2]; rfl
      · rw [upd_at, q71_24]; rfl
      · rw [upd_ne (by decide), q32_7]
      · rw [upd_ne (by decide), q71_4]
      · rw [upd_ne (by decide), q32_6]
      · rw [upd_ne (by decide), q71_21]
      · have : s = 0 := by omega
        subst this
        unfold sD
        rw [upd_at, upd_at, upd_at, upd_at, upd_at, upd_at]
        exact ⟨rfl, rfl, rfl, by decide, by rw [e0]; omega, hv.1, fun z => by rw [e0] at z; omega, by decide, by decide⟩
      · rw [upd_ne (by decide), q32_3]; rfl
      · rw [upd_ne (by decide), q71_25]; rfl
      · rw [upd_at]; rfl
    refine sp2_bind (s2_main F (by omega) hP ht hg) ?_
    rintro ⟨a32, a33, a34, a35, a37, a38, a39, a40⟩ ⟨b71, b80, b81, b82, b83, b84, b85⟩ ⟨hkp, hx⟩
    dsimp only at hkp hx
    have k0 : a32 0 = r32 0 + 1 := (hkp.1 0 (by decide) (by decide) (by decide)).trans ((upd_ne (by decide)).trans q32_0)
    have k1 : a32 1 = 1 := (hkp.1 1 (by decide) (by decide) (by decide)).trans ((upd_ne (by decide)).trans q32_1)
    have k7 : a32 7 = r18 0 := (hkp.1 7 (by decide) (by decide) (by decide)).trans ((upd_ne (by decide)).trans q32_7)
    have m20 : b71 20 = 1 := (hkp.2 20 (by decide) (by decide) (by decide) (by decide)).trans ((upd_ne (by decide)).trans q71_20)
    have mk : ∀ k, k ≠ 20 → k ≠ 21 → k ≠ 24 → k ≠ 25 → k ≠ 26 → b71 k = r71 k := fun k a b c d e => (hkp.2 k b c d e).trans ((upd_ne c).trans (q71_k k a b c d))
    have m4 : (b71 4).toInt = (r18 0).toInt := by rw [mk 4 (by decide) (by decide) (by decide) (by decide) (by decide), h4]
    show sp2 ((mj_it (mj_u2 (fun z0 z1 => bdX4_explore_127 F a33 z0 z1)) F ((0 : Int32), (upd a32 4 (0 : Int32)))).bind _) ((mj_it (mj_u2 (fun z0 z1 => bdX11_lays_114 F b71 b80 z0 z1)) F ((0 : Int32), r86)).bind _) _
    rcases hx with ⟨n, base, hgF⟩ | hm
    · have hgc := hgF
      obtain ⟨⟨c1, c2, c3, c4⟩, ⟨d0, d1, d2, d3, d4, d5⟩, d6, d7, ⟨f1, f2, f3, f4, f5, f6⟩, -, -, -, f10⟩ := hgF
      obtain ⟨fr, na, tg, sh, A1, A2, A3, A4⟩ := gF_end hgc
      refine sp2_bl (s4_ends F (by omega) c2 c3) ?_
      rintro u32 ⟨u1, u2⟩
      refine sp2_br (s11_init F (by omega) c2 c4 m4) ?_
      intro u86 hu86
      refine sp2_lp (by rw [u1 6 (by decide)]; exact d4) (sp2_rp d5 ?_)
      unfold jnX11_lays_164
      refine sp2_bl (s4_trapped F hF c2 A1 (C := (r18 0).toInt) (r33 := a33) (r36 := r36) (by rw [u1 2 (by decide)]; exact c3) (by rw [u1 7 (by decide), k7])) ?_
      rintro ⟨w32, w36⟩ ⟨w1, w2⟩
      dsimp only at w1 w2
      refine sp2_br (s11_outer F (by omega) c2 A2 c4 (uS_of hu86)) ?_
      rintro w86 ⟨w3, w4⟩
      have L1 := tS_LD w1 w2 A4
      have L2 := uS_LD w3 w4 A4
      have w32k : ∀ k, k ≠ 4 → k ≠ 5 → w32 k = a32 k := fun k a b => (w1.1 k b).trans (u1 k a)
      refine sp2_some ⟨(w32k 0 (by decide) (by decide)).trans k0, (w32k 1 (by decide) (by decide)).trans k1, m20, mk, Or.inl ⟨n, fr, na, tg, sh, ⟨c1, c2, ?_, c4⟩, ⟨d0, d1, ?_, d3, ?_, d5⟩, d6, d7.2.2.2, A1, A2, A3, ?_, ?_, w1.2.1, (f10 (by omega)).1, fun s hs => ⟨(w1.2.2 s hs).1, (w3 s hs).1, L1 s hs, ?_⟩⟩⟩
      · show (w32 2).toInt = _; rw [w32k 2 (by decide) (by decide)]; exact c3
      · show (w32 7).toInt = _; rw [w32k 7 (by decide) (by decide)]; exact d2
      · show w32 6 = 0; rw [w32k 6 (by decide) (by decide)]; exact d4
      · show w32 3 = b71 25; rw [w32k 3 (by decide) (by decide)]; exact i_eq.mpr (by omega)
      · show (w32 4).toInt = (ce a33 (w32 7) n : Nat)
        rw [w1.1 4 (by decide), u2, w32k 7 (by decide) (by decide)]
      · refine (L2 s hs).trans (Iff.trans (LD_congr (fun u hu => ?_) s) (L1 s hs).symm)
        rw [(d6 u hu).1]
    · refine sp2_bl (s4_ends F (by omega) (n := 200) (by omega) hm.2.2.1) ?_
      rintro u32 ⟨u1, u2⟩
      refine sp2_br (s11_init F (by omega) (n := 200) (by omega) hm.2.2.2 m4) ?_
      intro u86 hu86
      have n1 : ¬ u32 6 = 0 := by rw [u1 6 (by decide), hm.1]; decide
      have n2 : ¬ b71 21 = 0 := by rw [hm.2.1]; decide
      refine sp2_ln n1 (sp2_rn n2 ?_)
      unfold jnX11_lays_164
      have hz : mj_it (mj_u2 (fun z0 z1 => bdX11_lays_165 F b71 b83 b84 z0 z1)) F ((0 : Int32), u86) = some u86 := by
        refine sp_eq (sp_it (J := fun s : Int32 × (Nat → Int32) => s.1 = 0 ∧ s.2 = u86) (fun _ => 0) ?_ F _ ⟨rfl, rfl⟩ (by omega))
        rintro ⟨x, a⟩ ⟨h1, h2⟩
        refine sp_u2 ?_
        unfold bdX11_lays_165
        exact sp_pos h1 (sp_some h2)
      rw [hz, Option.bind_some]
      refine sp2_some ⟨(u1 0 (by decide)).trans k0, (u1 1 (by decide)).trans k1, m20, mk, Or.inr ⟨?_, hm.2.1, ?_, hm.2.2.2⟩⟩
      · show u32 6 = 1; rw [u1 6 (by decide)]; exact hm.1
      · show (u32 2).toInt = 200; rw [u1 2 (by decide)]; exact hm.2.2.1
  · exact absurd q1 (by decide)
