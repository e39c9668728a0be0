/-! ===== run, worth: what they share ===== -/
def liI (I : mj_IT) (L : mj_LT) : Prop := I 32 1 = 1 → I 65 0 = I 32 0 → ∃ (n : Nat) (fr na : Nat → Nat) (tg : Nat → Nat → Nat) (sh : Nat → Nat → Int), gG (I 18 0).toInt n fr na tg sh (I 32) (I 33) (I 34) (I 35) (I 36) (I 37) (I 38) (I 39) (I 71) (I 80) (I 81) (I 82) (I 83) (I 84) (I 85) (I 86) ∧ lkQ na tg sh (I 18) (I 19) (I 21) (I 32) (I 33) (I 65) (I 66) (L 65)
/-- what a call on the likeliest run wants of the bond -/
def kL (F : Nat) (Inv : Nat → mj_IT → mj_LT → Prop) : Prop := kG F Inv ∧
  (∀ j I L I' L', Inv j I L → (∀ a, ¬ (65 ≤ a ∧ a ≤ 69) → I' a = I a) → I 32 1 = 1 → I' 65 0 = I' 32 0 → liI I' L' → (∀ a, a ≠ 65 → a ≠ 68 → a ≠ 96 → L' a = L a) → Inv j I' L') ∧
  (∀ j I L, j < 512 → Inv j I L → liI I L ∧ (I 32 1 = 0 → ¬ I 65 0 = I 32 0 + 1))
theorem lG_inv {F : Nat} {Inv : Nat → mj_IT → mj_LT → Prop} (hKL : kL F Inv) {j : Nat} {I : mj_IT} {L : mj_LT} (hj : j < 512) (hI : Inv j I L) (hQ : gQ F I) {a : T9} {b : T8} (hl : lQ I a b) {I3 : mj_IT} {L3 : mj_LT} (hfr : ∀ x, ¬ (32 ≤ x ∧ x ≤ 40) → ¬ (65 ≤ x ∧ x ≤ 72) → ¬ (80 ≤ x ∧ x ≤ 86) → I3 x = I x) (hG : rG I3 = a) (hL : rL I3 (I3 71) = (I3 71, b.2)) (hr : rfQ I3) (h71 : ∀ k, k ≠ 0 → I3 71 k = b.1 k) (h4 : I3 65 0 = a.1 0) (hli : liI I3 L3) (hLf : ∀ x, x ≠ 65 → x ≠ 68 → x ≠ 96 → x ≠ 98 → L3 x = L x) : Inv (j + 1) I3 L3 := by
  let J : mj_IT := fun x => if 65 ≤ x ∧ x ≤ 69 then I x else I3 x
  let LJ : mj_LT := fun x => if x = 65 ∨ x = 68 ∨ x = 96 then L x else L3 x
  have hJ : ∀ x, ¬ (65 ≤ x ∧ x ≤ 69) → J x = I3 x := by
    intro x x1
    show (if 65 ≤ x ∧ x ≤ 69 then I x else I3 x) = I3 x
    rw [if_neg x1]
  have hGJ : rG J = a := by
    rw [← hG]
    unfold rG
    rw [hJ 32 (by decide), hJ 33 (by decide), hJ 34 (by decide), hJ 35 (by decide), hJ 36 (by decide), hJ 37 (by decide), hJ 38 (by decide), hJ 39 (by decide), hJ 40 (by decide)]
  have hLJ : rL J (J 71) = (J 71, b.2) := by
    have h9 : ∀ f, rL J f = rL I3 f := by
      intro f
      unfold rL
      rw [hJ 80 (by decide), hJ 81 (by decide), hJ 82 (by decide), hJ 83 (by decide), hJ 84 (by decide), hJ 85 (by decide), hJ 86 (by decide)]
    rw [h9, hJ 71 (by decide)]
    exact hL
  have i1 : Inv (j + 1) J LJ := by
    refine gG_inv hKL.1 hj hI hQ hl (fun x x1 x2 x3 => ?_) hGJ hLJ (fun k hk => ?_) ?_ (fun x hx => ?_)
    · by_cases e1 : 65 ≤ x ∧ x ≤ 69
      · show (if 65 ≤ x ∧ x ≤ 69 then I x else _) = I x
        rw [if_pos e1]
      · rw [hJ x e1]
        exact hfr x x1 (by omega) x3
    · rw [hJ 71 (by decide)]; exact h71 k hk
    · intro k hk
      rw [hJ 70 (by decide), hJ 72 (by decide)]
      exact hr k hk
    · show (if x = 65 ∨ x = 68 ∨ x = 96 then L x else L3 x) = L x
      by_cases e : x = 65 ∨ x = 68 ∨ x = 96
      · rw [if_pos e]
      · rw [if_neg e]; exact hLf x (fun z => e (Or.inl z)) (fun z => e (Or.inr (Or.inl z))) (fun z => e (Or.inr (Or.inr z))) hx
  have e32 : I3 32 = a.1 := by rw [← hG]; rfl
  refine hKL.2.1 (j + 1) J LJ I3 L3 i1 (fun x x1 => (hJ x x1).symm) ?_ ?_ hli (fun x x1 x2 x3 => ?_)
  · rw [hJ 32 (by decide), e32]
    exact hl.2.2.2.1
  · rw [e32]; exact h4
  · show L3 x = (if x = 65 ∨ x = 68 ∨ x = 96 then L x else L3 x)
    rw [if_neg (by omega)]
theorem lG_of {I : mj_IT} {a : T9} {b : T8} {n : Nat} {fr na : Nat → Nat} {tg : Nat → Nat → Nat} {sh : Nat → Nat → Int} (hG : gGab I a b n fr na tg sh) : lG n fr na tg sh (I 18) (I 19) a.1 a.2.1 a.2.2.2.2.2.1 a.2.2.2.2.2.2.1 a.2.2.2.2.2.2.2.1 := by
  obtain ⟨⟨g1, g2, g3, g4⟩, ⟨z1, z2, z3, z4, z5, z6⟩, g6, g7, gA, gR, gH, -⟩ := hG
  refine ⟨g2, g1, g3, ⟨z1, z2⟩, z3, gA, fun s hs k hk => ?_, fun s hs => ⟨(g6 s hs).2.2.2.1, (gH s hs).2.2⟩⟩
  have := (gH s hs).1 k hk
  exact ⟨this.1, this.2.2.1, this.2.2.2⟩
theorem lH_of {I : mj_IT} (hp : pK (I 18) (I 19) (I 20) (I 21) (I 22) (I 23) (I 24) (I 25) (I 26) (I 73)) {a : T9} {b : T8} {n : Nat} {fr na : Nat → Nat} {tg : Nat → Nat → Nat} {sh : Nat → Nat → Int} (hG : gGab I a b n fr na tg sh) : lH n na tg sh (I 18) (I 19) (I 21) a.1 a.2.1 b.1 (I 73) b.2.1 b.2.2.2.2.1 b.2.2.2.2.2.1 b.2.2.2.2.2.2.1 := by
  obtain ⟨⟨g1, g2, g3, g4⟩, ⟨z1, z2, z3, z4, z5, z6⟩, g6, g7, gA, gR, gH, -⟩ := hG
  refine ⟨g2, g1, g4, ⟨z1, z2⟩, i_eq.mpr (by omega), i_eq.mpr (by omega), gR, fun s hs k hk => ?_, fun s hs => ⟨(g6 s hs).1, (g6 s hs).2.2.2.1⟩, fun k hk => ?_⟩
  · have := (gH s hs).1 k hk
    exact ⟨this.2.1, this.2.2.1, this.2.2.2⟩
  · obtain ⟨p1, p2, p3, -, -, -, -, -, -, -, -, p4, -, p5, -⟩ := hp.2.2 k hk
    refine ⟨p1, fun w => ?_⟩
    have w1 : (I 19 k).toInt = 2 := by rw [w]; rfl
    exact ⟨p4 (Or.inr w1), (p5 w1).1⟩
theorem q_find (F : Nat) (hF : 3000 ≤ F) {I : mj_IT} {L : mj_LT} (hp : pK (I 18) (I 19) (I 20) (I 21) (I 22) (I 23) (I 24) (I 25) (I 26) (I 73)) (hQ : gQ F I) (hli : liI I L) (hv : I 32 1 = 0 → ¬ I 65 0 = I 32 0 + 1) {a : T9} {b : T8} (hl : lQ I a b) (hX : gX I a b) :
    ∃ (n : Nat) (fr na : Nat → Nat) (tg : Nat → Nat → Nat) (sh : Nat → Nat → Int) (oc : (Nat → Int32) × (Nat → Int32) × (Nat → Int32) × (Nat → Int32) × (Nat → Int64) × (Nat → Int64)) (ol : Int32 × (Nat → Int64)), gGab I a b n fr na tg sh ∧ fnX5_find F (I 18) (I 19) (I 21) a.1 a.2.1 a.2.2.2.2.2.1 a.2.2.2.2.2.2.1 a.2.2.2.2.2.2.2.1 (I 65) (I 66) (I 67) (I 69) (L 65) (L 68) = some oc ∧ oc.1 0 = a.1 0 ∧ lkQ na tg sh (I 18) (I 19) (I 21) a.1 a.2.1 oc.1 oc.2.1 oc.2.2.2.2.1 ∧ fnX11_length F b.1 (I 73) b.2.1 b.2.2.2.2.1 b.2.2.2.2.2.1 b.2.2.2.2.2.2.1 (L 96) = some ol ∧ (∀ d, d ≤ 10 → tbQ n na tg sh (en_ a.2.1 (a.1 7)) (dwB (I 18) (I 19) a.2.1) d ol.2) ∧ ((ol.1 = -1 ∧ oc.2.2.2.2.1 1 ≤ 0) ∨ ∃ k s0 : Nat, ol.1.toInt = (k : Nat) ∧ k ≤ 10 ∧ ¬ ol.1 = -1 ∧ ¬ oc.2.2.2.2.1 1 ≤ 0 ∧ (oc.2.2.2.2.1 1).toInt = vd na tg sh (en_ a.2.1 (a.1 7)) (dwB (I 18) (I 19) a.2.1) k ∧ oc.1 2 = ol.1 ∧ sf na tg (en_ a.2.1 (a.1 7)) (dwB (I 18) (I 19) a.2.1) 201 0 = some s0 ∧ 0 < mm na tg sh (en_ a.2.1 (a.1 7)) (dwB (I 18) (I 19) a.2.1) (sf na tg (en_ a.2.1 (a.1 7)) (dwB (I 18) (I 19) a.2.1) 201) k s0 ∧ drQ na tg sh (en_ a.2.1 (a.1 7)) (dwB (I 18) (I 19) a.2.1) (I 19) (I 21) a.2.1 s0 k k oc.2.1) := by
  obtain ⟨q0, q1, q2, q3, q4, q5, q6⟩ := id hl
  have hW : ∃ (n : Nat) (fr na : Nat → Nat) (tg : Nat → Nat → Nat) (sh : Nat → Nat → Int), gGab I a b n fr na tg sh ∧ (I 65 0 = a.1 0 → lkQ na tg sh (I 18) (I 19) (I 21) a.1 a.2.1 (I 65) (I 66) (L 65)) := by
    by_cases hc : I 65 0 = a.1 0
    · rcases hQ.1 with z | z
      · exact absurd (hc.trans (q2 z)) (hv z)
      · have ea := q1 z
        subst ea
        obtain ⟨n, fr, na, tg, sh, w1, w2⟩ := hli z hc
        refine ⟨n, fr, na, tg, sh, ?_, fun _ => w2⟩
        have eb := q0 (hQ.2.2.1 z).1
        subst eb
        exact gG_congr (r71 := I 71) (g := upd (I 71) 0 0) (upd_ne (by decide)) (upd_ne (by decide)) (upd_ne (by decide)) (upd_ne (by decide)) w1
    · obtain ⟨n, fr, na, tg, sh, hG⟩ := hX
      exact ⟨n, fr, na, tg, sh, hG, fun z => absurd z hc⟩
  obtain ⟨n, fr, na, tg, sh, hG, hc⟩ := hW
  have hg := lG_of hG
  have hh := lH_of hp hG
  have hshB := lG_shB hg
  have hst : ∀ s x, s < n → sf na tg (en_ a.2.1 (a.1 7)) (dwB (I 18) (I 19) a.2.1) 201 s = some x → x < n := fun s x hs => sf_lt (fun s hs hna => (hshB s hs 0 hna).2.2) 201 s x hs
  have l0 : (0 : Int64).toInt = 0 := rfl
  obtain ⟨oc, x1, x2, x3⟩ := s5_find F hF (r67 := I 67) (r69 := I 69) (q68 := L 68) hg hc
  obtain ⟨ol, y1, y2, y3⟩ := s11_length F (by omega) (q96 := L 96) hh
  refine ⟨n, fr, na, tg, sh, oc, ol, hG, x1, x2, x3, y1, y2, ?_⟩
  rcases lk_len hshB hst x3 y3 hg.2.1 with ⟨w1, w2⟩ | ⟨k, s0, w1, w2, w3, w4, w5, w6, w7, w8⟩
  · exact Or.inl ⟨i_eq.mpr w1, l_le.mpr (by rw [w2, l0]; exact Int.le_refl _)⟩
  · refine Or.inr ⟨k, s0, w1, w2, fun z => ?_, fun z => ?_, w4, i_eq.mpr (by rw [w5, w1]), w6, w7, w8⟩
    · have z1 : ol.1.toInt = -1 := by rw [z]; rfl
      clear z
      omega
    · have := l_le.mp z
      rw [l0] at this
      omega
